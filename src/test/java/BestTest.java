/** Promises 25 to 28: what is best. */
public final class BestTest {
    private static final Due due = new Due("BestTest");
    private static final int NONE = EyeRota.NONE;

    public static void main(String[] args) {
        bestByTryingAll("plain 0;young 0;work 1 0 9 3;work 0 5 5 9;work 1 5 5 8;work 0 6 6 2;work 1 6 9 7;");
        bestByTryingAll("dreamer 0;plain 1;work 0 0 5 9;work 0 6 6 4;work 1 6 6 4;");
        bestByTryingAll("old 0;");
        bestApart();
        bestInTurn();
        bestAnew();
        bestAnswers();
        swaps();
        gifts();
        mends();
        due.close();
    }

    /** Goes through all rotas by shift() and done(), in the document's order, and keeps the first of the most. */
    private static void bestByTryingAll(String text) {
        EyeRota x = Due.told(text);
        int kin = x.rule(0);
        int ways = 1;
        for (int h = 0; h < 10; h++) {
            ways *= kin + 1;
        }
        int most = -1;
        int[] first = new int[10];
        for (int way = 0; way < ways; way++) {
            int rest = way;
            for (int h = 9; h >= 0; h--) {
                int who = rest % (kin + 1);
                rest /= kin + 1;
                x.shift(h, who == kin ? NONE : who);
            }
            if (x.done(1) > most) {
                most = x.done(1);
                for (int h = 0; h < 10; h++) {
                    first[h] = x.rota(h);
                }
            }
        }
        due.is("best(0) of " + text, x.best(0), most);
        for (int h = 0; h < 10; h++) {
            due.is("best(" + (10 + h) + ") of " + text, x.best(10 + h), first[h]);
        }
        due.is("the rota stays", x.rota(9), NONE);
    }

    private static void bestApart() {
        // 0 and 2 sit apart, so that not both can see in hours 4 and 5; 1, or nobody, must lie between
        EyeRota x = Due.told("plain 0;plain 0;plain 0;work 0 4 4 5;work 2 5 5 6;");
        due.is("best(0)", x.best(0), 6);
        due.is("best(14)", x.best(14), 1);
        due.is("best(15)", x.best(15), 2);
        due.is("best(16)", x.best(16), 0);
        x.assign(2, 6, 6, 1);
        due.is("best(0) anew", x.best(0), 7);
        x.drop(2, 1);
        due.is("best(0) with less", x.best(0), 5);
        due.is("best(14) with less", x.best(14), 0);
        x.alter(0, 0, 3);
        due.is("best(0) by another kind", x.best(0), 0);
    }

    /** A way that looks good only if it is forgotten who had the eye in the hour ahead. */
    private static void bestInTurn() {
        EyeRota x = Due.told("plain 0;plain 0;plain 0;work 2 4 4 9;work 0 5 5 3;work 1 5 5 3;");
        due.is("best(0)", x.best(0), 12);
        int[] who = {0, 0, 0, 0, 2, 1, 0, 0, 0, 0};
        // ONE 2 sees in hour 4 only if 0 does not have it in hour 3
        who[3] = 1;
        for (int h = 0; h < 10; h++) {
            due.is("in turn, best(" + (10 + h) + ")", x.best(10 + h), who[h]);
        }
    }

    /** What was planned is planned anew when KIN or WORK are others, as many as they were. */
    private static void bestAnew() {
        EyeRota x = Due.told("plain 0;plain 0;work 0 0 1 3;work 0 0 1 3;");
        due.is("best(0)", x.best(0), 6);
        x.drop(2, 0);
        x.assign(1, 6, 7, 4);
        x.assign(1, 6, 7, 5);
        due.is("best(0) of other work", x.best(0), 9);
        due.is("best(16) of other work", x.best(16), 0);
        due.is("best(17) of other work", x.best(17), 1);
        x.alter(1, 0, 1);
        due.is("best(0) of other kin", x.best(0), 0);
        x.alter(1, 0, 3);
        x.alter(0, 0, 3);
        x.alter(0, 1, 1);
        x.alter(1, 1, 1);
        x.drop(2, 0);
        x.assign(0, 0, 5, 9);
        x.assign(0, 9, 9, 1);
        due.is("best(0) of all others", x.best(0), 1);
        Due.tell(x, "old 0;");
        due.is("best(0) of another text", x.best(0), 0);
        due.is("best(10) of another text", x.best(10), 0);
        x.text();
        due.is("best(10) of nobody", x.best(10), NONE);
    }

    private static void bestAnswers() {
        EyeRota x = Due.told("plain 0;work 0 3 3 2;");
        for (int what : new int[] {-1, 1, 9, 20, NONE}) {
            due.is("best(" + what + ")", x.best(what), EyeRota.BAD);
        }
        for (int h = 0; h < 10; h++) {
            due.is("best(" + (10 + h) + "): ones ahead of nobody", x.best(10 + h), 0);
            due.is("nobody there, best(" + (10 + h) + ")", new EyeRota().best(10 + h), NONE);
        }
        due.is("nobody there, best(0)", new EyeRota().best(0), 0);
    }

    private static void swaps() {
        EyeRota x = Due.told("plain 0;plain 0;rota 0 1 5 5 1;work 0 4 4 5;work 1 0 0 3;");
        due.is("as it is", x.done(1), 0);
        due.is("swap(0)", x.swap(0), 4);
        due.is("swap(1)", x.swap(1), 8);
        due.is("the rota stays", x.rota(0), 0);
        EyeRota y = Due.told("plain 0;rota 0 0;work 0 5 6 5;");
        due.is("of several the least", y.swap(0), 5);
        due.is("its worth", y.swap(1), 5);
        EyeRota beside = Due.told("plain 0;rota 5 5 5 0;work 0 4 4 5;");
        due.is("hours beside one another", beside.swap(0), 34);
        EyeRota z = Due.told("plain 0;rota 0;work 0 0 9 5;");
        due.is("by none, 0", z.swap(0), NONE);
        due.is("by none, 1", z.swap(1), NONE);
        due.is("swap(2)", z.swap(2), EyeRota.BAD);
        due.is("swap(-1)", z.swap(-1), EyeRota.BAD);
    }

    private static void gifts() {
        EyeRota first = Due.told("plain 0;work 0 0 0 3;");
        due.is("hour 0 to the first", first.give(0), 0);
        EyeRota x = Due.told("plain 0;plain 0;plain 0;work 2 4 6 5;work 1 5 5 6;rota 5 5 5 5 1 0;");
        due.is("give(0)", x.give(0), 51);
        due.is("give(1)", x.give(1), 6);
        due.is("the rota stays", x.rota(5), 0);
        x.drop(2, 1);
        due.is("of several the least", x.give(0), 42);
        due.is("its worth", x.give(1), 5);
        x.drop(2, 0);
        due.is("by none, 0", x.give(0), NONE);
        due.is("by none, 1", x.give(1), NONE);
        due.is("give(2)", x.give(2), EyeRota.BAD);
        due.is("give(-1)", x.give(-1), EyeRota.BAD);
        // to be given an hour may cost others their sight, or win it for them
        EyeRota y = Due.told("plain 0;plain 0;plain 0;work 2 5 5 9;rota 5 5 5 5 0 2;");
        due.is("a neighbour ahead", y.give(0), 41);
        due.is("its worth", y.give(1), 9);
    }

    private static void mends() {
        EyeRota x = Due.told("old 0;old 0;old 1;old 2;rota 0 1 2;thing 0 5;turn 1 0 6;turn 9 1 3;");
        due.is("one is right, one wrong, two believe nothing", x.mend(0), 3);
        due.is("one is wrong, nobody right", x.mend(1), NONE);
        due.is("nobody believes anything", x.mend(2), NONE);
        due.is("mend(3)", x.mend(3), EyeRota.BAD);
        due.is("mend(-1)", x.mend(-1), EyeRota.BAD);
        x.tell(9, 1, 3, 0);
        due.is("behind the other tellings", x.mend(0), 2);
        EyeRota y = Due.told("old 0;rota 0;");
        due.is("all are right", y.mend(0), 0);
        due.is("one alone believes nothing", y.mend(1), NONE);
        due.is("nobody there", new EyeRota().mend(2), 0);
    }
}
