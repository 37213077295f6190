/** Promises 20 to 24: what is seen, believed, done. */
public final class BeliefTest {
    private static final Due due = new Due("BeliefTest");
    private static final int NONE = EyeRota.NONE;

    public static void main(String[] args) {
        eyesByKind();
        neighbours();
        keeping();
        turnsAheadOfSight();
        tellings();
        rightAndWrong();
        doneWork();
        badNumbers();
        due.close();
    }

    private static void eyesByKind() {
        String[] kinds = {"plain", "young", "old", "dreamer"};
        int[] first = {0, 0, 0, 6};
        int[] last = {9, 5, 9, 9};
        for (int kind = 0; kind < 4; kind++) {
            EyeRota x = Due.told(kinds[kind] + " 0;rota 0 0 0 0 0 0 0 0 0 0;");
            for (int h = 0; h < 10; h++) {
                int want = h >= first[kind] && h <= last[kind] ? 0 : NONE;
                due.is(kinds[kind] + " sees(" + h + ")", x.sees(h), want);
            }
        }
    }

    private static void neighbours() {
        EyeRota x = Due.told("plain 0;plain 0;plain 0;plain 0;plain 0;rota 4 0 0 1 3 5 1 2 1 4;");
        int[] seers = {4, NONE, 0, 1, NONE, NONE, 1, 2, 1, NONE};
        for (int h = 0; h < 10; h++) {
            due.is("sees(" + h + ")", x.sees(h), seers[h]);
        }
        due.is("hours that are dark", x.count(5), 3);
        x.shift(0, NONE);
        due.is("sees(1) behind nobody", x.sees(1), 0);
    }

    private static void keeping() {
        String[] kinds = {"plain", "young", "old", "dreamer"};
        int[] keeps = {3, 2, 9, 6};
        for (int kind = 0; kind < 4; kind++) {
            int start = kind == 3 ? 6 : 0;
            EyeRota x = Due.told(kinds[kind] + " 2;thing 2 8;");
            x.shift(start, 0);
            for (int h = 0; h < 10; h++) {
                boolean believes = h >= start && h - start <= keeps[kind];
                due.is(kinds[kind] + " belief behind " + h, x.belief(0, 2, h, 0), believes ? 8 : NONE);
                due.is(kinds[kind] + " its age behind " + h, x.belief(0, 2, h, 1), believes ? h - start : NONE);
                due.is(kinds[kind] + " of another thing " + h, x.belief(0, 1, h, 0), NONE);
            }
        }
        // an old one's belief told to a dreamer is kept as long as the dreamer keeps
        EyeRota x = Due.told("old 0;dreamer 0;rota 0;tell 1 0 1 0;");
        due.is("the dreamer behind 6", x.belief(1, 0, 6, 1), 6);
        due.is("the dreamer behind 7", x.belief(1, 0, 7, 1), NONE);
        due.is("the old one behind 9", x.belief(0, 0, 9, 1), 9);
    }

    private static void turnsAheadOfSight() {
        EyeRota x = Due.told("plain 0;thing 0 1;turn 2 0 5;turn 2 0 6;turn 3 0 7;rota 5 5 0;");
        due.is("sees the turned value", x.belief(0, 0, 2, 0), 6);
        due.is("still believes it", x.belief(0, 0, 3, 0), 6);
        due.is("wrong(0, 0)", x.wrong(0, 0), 3);
    }

    private static void tellings() {
        EyeRota x = Due.told("plain 0;young 0;plain 0;rota 5 0;thing 0 3;tell 4 0 1 0;tell 4 1 2 0;");
        due.is("told as old as that", x.belief(1, 0, 4, 1), 3);
        due.is("told on in the same hour", x.belief(2, 0, 4, 0), 3);
        due.is("an old belief of a young one goes", x.belief(1, 0, 5, 0), NONE);
        due.is("older than a plain one keeps", x.belief(2, 0, 5, 0), NONE);
        EyeRota y = Due.told("plain 0;plain 0;plain 0;rota 5 0;thing 0 3;tell 4 1 2 0;tell 4 0 1 0;");
        due.is("by order: nothing to tell yet", y.belief(2, 0, 4, 0), NONE);
        due.is("by order: told behind it", y.belief(1, 0, 4, 0), 3);
        EyeRota z = Due.told("old 0;old 0;rota 0 1;turn 1 0 6;tell 2 0 1 0;");
        due.is("the older belief takes the newer one's place", z.belief(1, 0, 2, 0), 0);
        due.is("its age", z.belief(1, 0, 2, 1), 2);
        EyeRota q = Due.told("old 0;old 0;rota 5 1;tell 2 0 1 0;");
        due.is("who believes nothing tells nothing", q.belief(1, 0, 2, 0), 0);
    }

    private static void rightAndWrong() {
        EyeRota x = Due.told("old 0;old 0;plain 1;rota 0 0 1 2;thing 0 4;turn 2 0 9;turn 5 0 4;");
        due.is("right(0, 0, 0)", x.right(0, 0, 0), 1);
        due.is("right(0, 2, 0)", x.right(0, 2, 0), 2);
        due.is("right(0, 2, 1)", x.right(0, 2, 1), 1);
        due.is("right(0, 5, 0)", x.right(0, 5, 0), 1);
        due.is("right(0, 5, 1)", x.right(0, 5, 1), 2);
        due.is("right(1, 3, 0)", x.right(1, 3, 0), 4);
        due.is("right(1, 7, 0): forgotten", x.right(1, 7, 0), 0);
        due.is("right(1, 7, 1): nothing is not wrong", x.right(1, 7, 1), 0);
        due.is("wrong(0, 0)", x.wrong(0, 0), 2);
        due.is("wrong(1, 0)", x.wrong(1, 0), 5);
        due.is("wrong(2, 1)", x.wrong(2, 1), NONE);
    }

    private static void doneWork() {
        EyeRota x = Due.told("plain 0;young 0;plain 0;rota 0 2 1 5 5 5 1;"
                + "work 0 0 0 3;work 2 1 1 9;work 1 0 2 4;work 1 6 9 5;work 0 1 9 7;");
        due.is("done(0)", x.done(0), 0b00101);
        due.is("done(1)", x.done(1), 7);
        int[] each = {1, 0, 1, 0, 0};
        for (int i = 0; i < 5; i++) {
            due.is("work(" + i + ", 4)", x.work(i, 4), each[i]);
        }
        x.shift(0, NONE);
        due.is("done(0) without the first", x.done(0), 0b00110);
        due.is("done(1) without the first", x.done(1), 13);
        due.is("done(2)", x.done(2), EyeRota.BAD);
        due.is("done(-1)", x.done(-1), EyeRota.BAD);
    }

    private static void badNumbers() {
        EyeRota x = Due.told("plain 0;");
        due.is("sees(10)", x.sees(10), EyeRota.BAD);
        due.is("sees(NONE)", x.sees(NONE), EyeRota.BAD);
        int[][] bad = {{1, 0, 0, 0}, {-1, 0, 0, 0}, {0, 3, 0, 0}, {0, -1, 0, 0}, {0, 0, 10, 0}, {0, 0, -1, 0},
            {0, 0, NONE, 0}, {0, 0, 0, 2}, {0, 0, 0, -1}};
        for (int[] b : bad) {
            String call = "belief(" + b[0] + ", " + b[1] + ", " + b[2] + ", " + b[3] + ")";
            due.is(call, x.belief(b[0], b[1], b[2], b[3]), EyeRota.BAD);
        }
        due.is("right(3, 0, 0)", x.right(3, 0, 0), EyeRota.BAD);
        due.is("right(0, 10, 0)", x.right(0, 10, 0), EyeRota.BAD);
        due.is("right(0, -1, 0)", x.right(0, -1, 0), EyeRota.BAD);
        due.is("right(0, 0, 2)", x.right(0, 0, 2), EyeRota.BAD);
        due.is("wrong(1, 0)", x.wrong(1, 0), EyeRota.BAD);
        due.is("wrong(-1, 0)", x.wrong(-1, 0), EyeRota.BAD);
        due.is("wrong(0, 3)", x.wrong(0, 3), EyeRota.BAD);
    }
}
