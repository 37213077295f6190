/** Promises 31 to 34: who had it. */
public final class SeenTest {
    private static final Due due = new Due("SeenTest");
    private static final int NONE = EyeRota.NONE;

    public static void main(String[] args) {
        seen();
        mays();
        asks();
        due.close();
    }

    private static void seen() {
        EyeRota x = Due.told("plain 0;plain 0;");
        int[][] bad = {{2, 0, 0, 0}, {-1, 0, 0, 0}, {0, 3, 0, 0}, {0, -1, 0, 0}, {0, 0, 10, 0}, {0, 0, -1, 0},
            {0, 0, 0, 10}, {0, 0, 0, -1}, {0, 0, 0, -5}};
        for (int[] b : bad) {
            String call = "see(" + b[0] + ", " + b[1] + ", " + b[2] + ", " + b[3] + ")";
            due.is(call, x.see(b[0], b[1], b[2], b[3]), EyeRota.BAD);
        }
        for (int i = 1; i <= 6; i++) {
            due.is("see the " + i, x.see(1, 2, 9, i == 3 ? NONE : 9), i);
        }
        due.is("see the 7th", x.see(1, 2, 9, 9), EyeRota.FULL);
        due.is("a bad one when full", x.see(2, 2, 9, 9), EyeRota.BAD);
        due.is("forget(7)", x.forget(7), EyeRota.BAD);
        due.is("forget(-1)", x.forget(-1), EyeRota.BAD);
        due.is("forget(6)", x.forget(6), 6);
        due.is("forget(2)", x.forget(2), 6);
        due.is("count(0)", x.count(0), 2);
        due.is("forget(3)", x.forget(3), EyeRota.BAD);
        due.is("forget(0)", x.forget(0), 2);
        due.is("forget(0) again", x.forget(0), 0);
    }

    private static void mays() {
        EyeRota x = Due.told("old 0;old 0;young 1;thing 0 4;turn 5 0 6;");
        due.is("nothing is seen", x.may(3), 0b100111);
        x.see(0, 0, 9, 4);
        due.is("one had it in the morning", x.may(3), 1);
        due.is("but not in the evening", x.may(5), 0);
        x.see(1, 0, 9, NONE);
        due.is("another believes nothing", x.may(3), 1);
        x.forget(0);
        x.see(2, 1, 5, NONE);
        due.is("all but the young one", x.may(4), 0b100011);
        due.is("the young one has no eyes then, and it is later", x.may(6), 0b100111);
        due.is("may(10)", x.may(10), EyeRota.BAD);
        due.is("may(-1)", x.may(-1), EyeRota.BAD);
        due.is("the rota stays", x.rule(4), 0);
        due.is("nobody there", new EyeRota().may(9), 32);
    }

    private static void asks() {
        EyeRota x = Due.told("old 0;old 1;old 2;");
        // each answer tells one of four apart: the first question of those alike
        due.is("ask(0, 0)", x.ask(0, 0), 0);
        due.is("ask(0, 1)", x.ask(0, 1), 3);
        due.is("ask(10, 0)", x.ask(10, 0), EyeRota.BAD);
        due.is("ask(-1, 0)", x.ask(-1, 0), EyeRota.BAD);
        due.is("ask(0, 2)", x.ask(0, 2), EyeRota.BAD);
        due.is("ask(0, -1)", x.ask(0, -1), EyeRota.BAD);
        x.see(0, 0, 0, 0);
        due.is("who it was is known", x.ask(0, 0), NONE);
        due.is("who it was is known, 1", x.ask(0, 1), NONE);
        // 2 believes 4 if it had the eye, or if 0 had it and told: two and two are told apart
        EyeRota y = Due.told("old 0;old 1;old 0;tell 5 0 2 0;thing 0 4;");
        due.is("whom two could have made believe it", y.ask(0, 0), 20);
        due.is("how many are left", y.ask(0, 1), 2);
        y.see(1, 1, 0, NONE);
        due.is("of three that are left", y.may(0), 0b100101);
        due.is("the least of those alike", y.ask(0, 0), 0);
        due.is("how many are left then", y.ask(0, 1), 2);
        due.is("nobody there", new EyeRota().ask(0, 0), NONE);
        // behind hour 9 the young one has forgotten all
        EyeRota z = Due.told("young 0;");
        due.is("forgotten", z.ask(0, 0), NONE);
        due.is("seen too late", z.ask(9, 0), NONE);
    }
}
