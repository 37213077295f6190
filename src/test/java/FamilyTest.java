/** Promises 6 to 19: what there is, and what is changed. */
public final class FamilyTest {
    private static final Due due = new Due("FamilyTest");
    private static final String TEXT =
            "plain 0;young 1;old 2;dreamer 0;thing 1 4;turn 3 1 7;turn 3 1 8;turn 1 1 5;rota 0 1 2 5 3 3 3 5 1;"
            + "work 1 1 4 5;work 1 8 9 2;tell 2 1 0 1;";

    public static void main(String[] args) {
        rules();
        ones();
        things();
        rows();
        alterAndPaint();
        shifts();
        rowsMore();
        drops();
        due.close();
    }

    private static void rules() {
        EyeRota x = Due.told(TEXT);
        due.is("rule(0)", x.rule(0), 4);
        due.is("rule(1)", x.rule(1), 3);
        due.is("rule(2)", x.rule(2), 2);
        due.is("rule(3)", x.rule(3), 1);
        due.is("rule(4)", x.rule(4), 0b101110111);
        // the dreamer has no eyes till hour 6, the young one none from then on
        due.is("rule(5)", x.rule(5), 0b001000111);
        due.is("rule(-1)", x.rule(-1), EyeRota.BAD);
        due.is("rule(6)", x.rule(6), EyeRota.BAD);
    }

    private static void ones() {
        EyeRota x = Due.told(TEXT);
        int[] keeps = {3, 2, 9, 6};
        int[] posts = {0, 1, 2, 0};
        int[] held = {1, 0b100000010, 4, 0b1110000};
        int[] seen = {1, 2, 4, 0b1000000};
        for (int k = 0; k < 4; k++) {
            due.is("one(" + k + ", 0)", x.one(k, 0), k);
            due.is("one(" + k + ", 1)", x.one(k, 1), posts[k]);
            due.is("one(" + k + ", 2)", x.one(k, 2), keeps[k]);
            due.is("one(" + k + ", 3)", x.one(k, 3), held[k]);
            due.is("one(" + k + ", 4)", x.one(k, 4), seen[k]);
        }
        due.is("one(-1, 0)", x.one(-1, 0), EyeRota.BAD);
        due.is("one(4, 0)", x.one(4, 0), EyeRota.BAD);
        due.is("one(0, -1)", x.one(0, -1), EyeRota.BAD);
        due.is("one(0, 5)", x.one(0, 5), EyeRota.BAD);
        due.is("one(NONE, 3)", x.one(EyeRota.NONE, 3), EyeRota.BAD);
    }

    private static void things() {
        EyeRota x = Due.told(TEXT);
        due.is("thing(1, NONE)", x.thing(1, EyeRota.NONE), 4);
        due.is("thing(1, 0)", x.thing(1, 0), 4);
        due.is("thing(1, 1)", x.thing(1, 1), 5);
        due.is("thing(1, 2)", x.thing(1, 2), 5);
        due.is("thing(1, 3): the later turn of two", x.thing(1, 3), 8);
        due.is("thing(1, 9)", x.thing(1, 9), 8);
        due.is("thing(0, 9)", x.thing(0, 9), 0);
        due.is("thing(-1, 0)", x.thing(-1, 0), EyeRota.BAD);
        due.is("thing(3, 0)", x.thing(3, 0), EyeRota.BAD);
        due.is("thing(0, 10)", x.thing(0, 10), EyeRota.BAD);
        due.is("thing(0, -1)", x.thing(0, -1), EyeRota.BAD);
        due.is("thing(0, -5)", x.thing(0, -5), EyeRota.BAD);
        x.change(0, 0, 6);
        due.is("a turn in hour 0", x.thing(0, 0), 6);
        due.is("at first, without it", x.thing(0, EyeRota.NONE), 0);
    }

    private static void rows() {
        EyeRota x = Due.told(TEXT);
        due.is("rota(0)", x.rota(0), 0);
        due.is("rota(3)", x.rota(3), EyeRota.NONE);
        due.is("rota(8)", x.rota(8), 1);
        due.is("rota(9)", x.rota(9), EyeRota.NONE);
        due.is("rota(10)", x.rota(10), EyeRota.BAD);
        due.is("rota(-1)", x.rota(-1), EyeRota.BAD);
        int[] turn = {3, 1, 8};
        int[] work = {1, 1, 4, 5, 1};
        int[] telling = {2, 1, 0, 1};
        for (int what = 0; what < 3; what++) {
            due.is("turn(1, " + what + ")", x.turn(1, what), turn[what]);
        }
        for (int what = 0; what < 5; what++) {
            due.is("work(0, " + what + ")", x.work(0, what), work[what]);
        }
        for (int what = 0; what < 4; what++) {
            due.is("telling(0, " + what + ")", x.telling(0, what), telling[what]);
        }
        due.is("work(1, 4): the young one in the evening", x.work(1, 4), 0);
        int[][] bad = {{-1, 0}, {5, 0}, {0, -1}, {0, 5}, {3, 4}, {2, 4}};
        for (int[] b : bad) {
            due.is("turn(" + b[0] + ", " + b[1] + ")", x.turn(b[0], b[1]), EyeRota.BAD);
            due.is("work(" + b[0] + ", " + b[1] + ")", x.work(b[0], b[1]), EyeRota.BAD);
            due.is("telling(" + b[0] + ", " + b[1] + ")", x.telling(b[0], b[1]), EyeRota.BAD);
        }
        due.is("turn(3, 0)", x.turn(3, 0), EyeRota.BAD);
        due.is("turn(0, 3)", x.turn(0, 3), EyeRota.BAD);
        due.is("work(2, 0)", x.work(2, 0), EyeRota.BAD);
        due.is("telling(1, 0)", x.telling(1, 0), EyeRota.BAD);
        due.is("telling(0, 4)", x.telling(0, 4), EyeRota.BAD);
    }

    private static void alterAndPaint() {
        EyeRota x = Due.told(TEXT);
        due.is("alter(1, 0, 3)", x.alter(1, 0, 3), 1);
        due.is("one(1, 0)", x.one(1, 0), 3);
        due.is("one(1, 2)", x.one(1, 2), 6);
        due.is("alter(1, 1, 2)", x.alter(1, 1, 2), 1);
        due.is("one(1, 1)", x.one(1, 1), 2);
        int[][] bad = {{4, 0, 0}, {-1, 0, 0}, {0, 2, 0}, {0, -1, 0}, {0, 0, 4}, {0, 0, -1}, {0, 1, 3}, {0, 1, -1}};
        for (int[] b : bad) {
            due.is("alter(" + b[0] + ", " + b[1] + ", " + b[2] + ")", x.alter(b[0], b[1], b[2]), EyeRota.BAD);
        }
        due.is("one(0, 0) behind it", x.one(0, 0), 0);
        due.is("one(0, 1) behind it", x.one(0, 1), 0);
        due.is("paint(1, 9)", x.paint(1, 9), 4);
        due.is("paint(1, 0)", x.paint(1, 0), 9);
        due.is("thing(1, NONE)", x.thing(1, EyeRota.NONE), 0);
        due.is("thing(1, 1)", x.thing(1, 1), 5);
        due.is("paint(3, 0)", x.paint(3, 0), EyeRota.BAD);
        due.is("paint(-1, 0)", x.paint(-1, 0), EyeRota.BAD);
        due.is("paint(0, 10)", x.paint(0, 10), EyeRota.BAD);
        due.is("paint(0, -1)", x.paint(0, -1), EyeRota.BAD);
        due.is("thing(0, NONE)", x.thing(0, EyeRota.NONE), 0);
    }

    private static void shifts() {
        EyeRota x = Due.told(TEXT);
        due.is("shift(0, 3)", x.shift(0, 3), 0);
        due.is("shift(0, NONE)", x.shift(0, EyeRota.NONE), 3);
        due.is("shift(0, 1)", x.shift(0, 1), EyeRota.NONE);
        due.is("rota(0)", x.rota(0), 1);
        due.is("shift(0, 4)", x.shift(0, 4), EyeRota.BAD);
        due.is("shift(0, 5)", x.shift(0, 5), EyeRota.BAD);
        due.is("shift(0, -1)", x.shift(0, -1), EyeRota.BAD);
        due.is("shift(10, 0)", x.shift(10, 0), EyeRota.BAD);
        due.is("shift(-1, NONE)", x.shift(-1, EyeRota.NONE), EyeRota.BAD);
        due.is("rota(0) behind it", x.rota(0), 1);
        due.is("shift with nobody there", new EyeRota().shift(0, 0), EyeRota.BAD);
    }

    private static void rowsMore() {
        EyeRota x = Due.told(TEXT);
        due.is("assign(3, 9, 9, 9)", x.assign(3, 9, 9, 9), 3);
        due.is("assign(0, 0, 0, 1)", x.assign(0, 0, 0, 1), 4);
        int[][] badWork = {{4, 0, 0, 1}, {-1, 0, 0, 1}, {0, -1, 0, 1}, {0, 3, 2, 1}, {0, 3, 10, 1}, {0, 10, 10, 1},
            {0, 0, 0, 0}, {0, 0, 0, 10}};
        for (int[] b : badWork) {
            String call = "assign(" + b[0] + ", " + b[1] + ", " + b[2] + ", " + b[3] + ")";
            due.is(call, x.assign(b[0], b[1], b[2], b[3]), EyeRota.BAD);
        }
        due.is("the 5th piece", x.assign(0, 0, 0, 1), 5);
        due.is("the 6th piece", x.assign(0, 0, 0, 1), EyeRota.FULL);
        due.is("a bad one when full", x.assign(4, 0, 0, 1), EyeRota.BAD);
        due.is("work(2, 0)", x.work(2, 0), 3);
        due.is("change(9, 2, 9)", x.change(9, 2, 9), 4);
        due.is("the 5th turn", x.change(0, 0, 0), EyeRota.FULL);
        due.is("change(10, 0, 0)", x.change(10, 0, 0), EyeRota.BAD);
        due.is("change(0, 3, 0)", x.change(0, 3, 0), EyeRota.BAD);
        due.is("change(0, 0, 10)", x.change(0, 0, 10), EyeRota.BAD);
        due.is("change(0, 0, NONE)", x.change(0, 0, EyeRota.NONE), EyeRota.BAD);
        due.is("turn(3, 1)", x.turn(3, 1), 2);
        due.is("tell(0, 0, 1, 2)", x.tell(0, 0, 1, 2), 2);
        due.is("tell(9, 3, 0, 0)", x.tell(9, 3, 0, 0), 3);
        int[][] badTelling = {{10, 0, 1, 0}, {-1, 0, 1, 0}, {0, 4, 1, 0}, {0, 0, 4, 0}, {0, 1, 1, 0}, {0, 0, 1, 3},
            {0, -1, 1, 0}, {0, 0, -1, 0}, {0, 0, 1, -1}};
        for (int[] b : badTelling) {
            String call = "tell(" + b[0] + ", " + b[1] + ", " + b[2] + ", " + b[3] + ")";
            due.is(call, x.tell(b[0], b[1], b[2], b[3]), EyeRota.BAD);
        }
        due.is("the 4th telling", x.tell(0, 0, 1, 0), 4);
        due.is("the 5th telling", x.tell(0, 0, 1, 0), EyeRota.FULL);
        due.is("one alike when full", x.tell(0, 1, 1, 0), EyeRota.BAD);
        due.is("telling(2, 1)", x.telling(2, 1), 3);
    }

    private static void drops() {
        EyeRota x = Due.told(TEXT);
        due.is("drop(1, 4)", x.drop(1, 4), EyeRota.BAD);
        due.is("drop(1, -1)", x.drop(1, -1), EyeRota.BAD);
        due.is("drop(0, 0)", x.drop(0, 0), EyeRota.BAD);
        due.is("drop(4, 0)", x.drop(4, 0), EyeRota.BAD);
        due.is("drop(1, 3)", x.drop(1, 3), 3);
        due.is("drop(1, 1)", x.drop(1, 1), 3);
        due.is("thing(1, 3): the first turn alone", x.thing(1, 3), 7);
        due.is("thing(1, 1)", x.thing(1, 1), 4);
        due.is("drop(2, 1)", x.drop(2, 1), 2);
        due.is("rule(2)", x.rule(2), 1);
        due.is("work(1, 0)", x.work(1, 0), EyeRota.BAD);
        due.is("work(0, 3)", x.work(0, 3), 5);
        due.is("drop(3, 0)", x.drop(3, 0), 1);
        due.is("rule(3)", x.rule(3), 0);
        due.is("drop(3, 0) again", x.drop(3, 0), 0);
        due.is("drop(3, 1)", x.drop(3, 1), EyeRota.BAD);
    }
}
