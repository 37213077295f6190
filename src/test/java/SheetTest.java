/** Promises 36 to 42: images, sheets, counts. */
public final class SheetTest {
    private static final Due due = new Due("SheetTest");
    private static final int NONE = EyeRota.NONE;

    public static void main(String[] args) {
        images();
        sheets();
        lanes();
        readings();
        readingsOfNone();
        refusals();
        counts();
        due.close();
    }

    private static void images() {
        EyeRota x = Due.told("plain 0;young 1;thing 0 3;turn 2 1 5;rota 0 1;work 0 0 3 4;tell 3 0 1 2;");
        due.is("back(0) ahead of keep", x.back(0), EyeRota.STATE);
        due.is("keep(0)", x.keep(0), 0);
        due.is("count(1)", x.count(1), 1);
        x.alter(0, 0, 2);
        x.alter(1, 1, 0);
        x.paint(0, 9);
        x.drop(1, 0);
        x.change(7, 2, 8);
        x.shift(0, 1);
        x.shift(9, 0);
        x.drop(2, 0);
        x.assign(1, 8, 9, 9);
        x.assign(1, 8, 9, 9);
        x.drop(3, 0);
        x.see(0, 0, 0, 0);
        due.is("keep(1)", x.keep(1), 0);
        due.is("keep(1) again", x.keep(1), 1);
        due.is("count(1)", x.count(1), 2);
        due.is("back(0)", x.back(0), 2);
        due.is("kind", x.one(0, 0), 0);
        due.is("post", x.one(1, 1), 1);
        due.is("thing", x.thing(0, NONE), 3);
        due.is("turn", x.turn(0, 2), 5);
        due.is("rota", x.rule(4), 3);
        due.is("who", x.rota(0), 0);
        due.is("work", x.work(0, 3), 4);
        due.is("pieces", x.rule(2), 1);
        due.is("telling", x.telling(0, 3), 2);
        due.is("seen stays", x.count(0), 1);
        due.is("images stay", x.count(1), 2);
        x.paint(0, 7);
        due.is("back(1)", x.back(1), 2);
        due.is("kind of image 1", x.one(0, 0), 2);
        due.is("pieces of image 1", x.rule(2), 2);
        due.is("tellings of image 1", x.rule(3), 0);
        x.back(0);
        due.is("an image is not changed by what comes behind it", x.thing(0, NONE), 3);
        due.is("keep(2)", x.keep(2), EyeRota.BAD);
        due.is("keep(-1)", x.keep(-1), EyeRota.BAD);
        due.is("back(2)", x.back(2), EyeRota.BAD);
        due.is("back(-1)", x.back(-1), EyeRota.BAD);
        EyeRota y = new EyeRota();
        due.is("an image of nobody", y.keep(1), 0);
        due.is("back to nobody", y.back(1), 0);
    }

    private static void sheets() {
        EyeRota x = new EyeRota();
        due.is("sheet(4, 0, 0)", x.sheet(4, 0, 0), EyeRota.BAD);
        due.is("sheet(-1, 0, 0)", x.sheet(-1, 0, 0), EyeRota.BAD);
        due.is("sheet(0, 3, 0)", x.sheet(0, 3, 0), EyeRota.BAD);
        due.is("sheet(0, -1, 0)", x.sheet(0, -1, 0), EyeRota.BAD);
        due.is("sheet(0, 0, 41)", x.sheet(0, 0, 41), EyeRota.BAD);
        due.is("sheet(0, 0, -1)", x.sheet(0, 0, -1), -14);
        due.is("sheet(4, 0, -1)", x.sheet(4, 0, -1), EyeRota.BAD);
        due.is("sheet(0, 3, -1)", x.sheet(0, 3, -1), EyeRota.BAD);
        due.is("nothing yet", x.count(3), NONE);
        due.is("sheet(0, 0, 40)", x.sheet(0, 0, 40), 1);
        due.is("count(3)", x.count(3), 40);
        due.is("sheet(0, 1, -7)", x.sheet(0, 1, -7), -14);
        due.is("count(3) behind it", x.count(3), 40);
        due.is("lay(0, 39, 5)", x.lay(0, 39, 5), 1);
        due.is("lay(0, 40, 5)", x.lay(0, 40, 5), -12);
        due.is("lay(0, -1, 5)", x.lay(0, -1, 5), -12);
        due.is("lay(1, 0, 5)", x.lay(1, 0, 5), -11);
        due.is("lay(1, -1, 5)", x.lay(1, -1, 5), -11);
        due.is("lay(4, 0, 5)", x.lay(4, 0, 5), EyeRota.BAD);
        due.is("lay(-1, 0, 5)", x.lay(-1, 0, 5), EyeRota.BAD);
        due.is("sheet(0, 2, 0)", x.sheet(0, 2, 0), 1);
        due.is("count(3) of an empty row", x.count(3), 0);
        due.is("lay on an empty row", x.lay(0, 0, 0), -12);
    }

    private static void pair(EyeRota x, int k, int cell, int hour, int who) {
        x.lay(k, cell, hour);
        x.lay(k, cell + 1, who);
    }

    private static void lanes() {
        int[] hours = {256 + 3, 65536 + 3, 3};
        for (int lane = 0; lane < 3; lane++) {
            EyeRota x = Due.told("plain 0;plain 0;");
            x.sheet(2, lane, 4);
            pair(x, 2, 0, hours[lane], 1);
            pair(x, 2, 2, 4, NONE);
            due.is("read of lane " + lane, x.read(2, lane, 0, 2), 2);
            due.is("rota(3) of lane " + lane, x.rota(3), 1);
            x.sheet(2, lane, 4);
            due.is("a new row is of zeros", x.read(2, lane, 0, 1), 1);
            due.is("rota(0)", x.rota(0), 0);
        }
        EyeRota x = Due.told("plain 0;");
        x.sheet(0, 1, 2);
        pair(x, 0, 0, 256 + 3, 0);
        due.is("a short keeps more than a byte", x.read(0, 1, 0, 1), -20);
        x.sheet(0, 2, 2);
        pair(x, 0, 0, 65536 + 3, 0);
        due.is("an int keeps more than a short", x.read(0, 2, 0, 1), -20);
        x.sheet(0, 0, 2);
        pair(x, 0, 0, 9, 252);
        due.is("a byte 252 is NONE", x.read(0, 0, 0, 1), 1);
        x.sheet(0, 0, 2);
        pair(x, 0, 0, 255, 0);
        due.is("a byte 255 is -1", x.read(0, 0, 0, 1), -20);
    }

    private static void readings() {
        EyeRota x = Due.told("plain 0;plain 0;rota 0;");
        x.sheet(1, 1, 7);
        pair(x, 1, 0, 2, 1);
        pair(x, 1, 2, 2, 0);
        pair(x, 1, 4, 0, NONE);
        x.lay(1, 6, 99);
        due.is("read(1, 1, 0, 1)", x.read(1, 1, 0, 1), 1);
        due.is("rota(2)", x.rota(2), 1);
        due.is("read(1, 1, 2, 20): two are whole", x.read(1, 1, 2, 20), 2);
        due.is("torn()", x.torn(), 2);
        due.is("rota(2)", x.rota(2), 0);
        due.is("rota(0)", x.rota(0), NONE);
        due.is("read(1, 1, 0, 2): the later one stays", x.read(1, 1, 0, 2), 2);
        due.is("torn() then", x.torn(), 0);
        due.is("rota(2) then", x.rota(2), 0);
        due.is("read(1, 1, 5, 0)", x.read(1, 1, 5, 0), 0);
        due.is("torn() of none", x.torn(), 0);
        due.is("read(1, 0, 0, 1)", x.read(1, 0, 0, 1), 0);
        due.is("torn() of a cast", x.torn(), 3);
        due.is("read(1, 2, 0, 1)", x.read(1, 2, 0, 1), 0);
        due.is("torn() of a cast", x.torn(), 3);
        due.is("read(3, 2, 0, 1)", x.read(3, 2, 0, 1), 0);
        due.is("torn() of nothing", x.torn(), 1);
        due.is("read(1, 1, -1, 1)", x.read(1, 1, -1, 1), 0);
        due.is("torn() of an index", x.torn(), 2);
        due.is("read(1, 1, MAX, 1)", x.read(1, 1, Integer.MAX_VALUE, 1), 0);
        due.is("torn() of an index", x.torn(), 2);
        due.is("read(1, 1, MIN, 20)", x.read(1, 1, Integer.MIN_VALUE, 20), 0);
        due.is("torn() of an index", x.torn(), 2);
        due.is("another lane ahead of an index", x.read(1, 0, 7, 1), 0);
        due.is("torn() of both", x.torn(), 3);
    }

    /** Where no HOUR is read, the machine refuses nothing, whatever the SHEET, its lane and the CELL are. */
    private static void readingsOfNone() {
        EyeRota x = Due.told("plain 0;rota 0;");
        for (int made = -1; made < 3; made++) {
            if (made >= 0) {
                x.sheet(1, made, made);
            }
            for (int lane = 0; lane < 3; lane++) {
                for (int f : new int[] {Integer.MIN_VALUE, -1, 0, 1, 40, Integer.MAX_VALUE}) {
                    String call = "read(1, " + lane + ", " + f + ", 0) of lane " + made;
                    due.is("a FAULT ahead of " + call, x.read(3, 0, 0, 1), 0);
                    due.is("torn() ahead of " + call, x.torn(), 1);
                    due.is(call, x.read(1, lane, f, 0), 0);
                    due.is("torn() behind " + call, x.torn(), 0);
                }
            }
        }
        due.is("THE ROTA stays", x.rota(0), 0);
        due.is("THE ROTA stays", x.rule(4), 1);
    }

    private static void refusals() {
        EyeRota x = Due.told("plain 0;plain 0;rota 0;");
        x.sheet(1, 2, 6);
        pair(x, 1, 0, 1, 1);
        pair(x, 1, 2, 10, 1);
        pair(x, 1, 4, 3, 2);
        x.read(2, 2, 0, 1);
        due.is("torn() ahead", x.torn(), 1);
        due.is("the second is bad", x.read(1, 2, 0, 3), -21);
        due.is("none came", x.rule(4), 1);
        due.is("torn() stays", x.torn(), 1);
        due.is("the first is bad", x.read(1, 2, 4, 20), -20);
        due.is("a bad half is not whole", x.read(1, 2, 5, 1), 0);
        due.is("torn() of it", x.torn(), 2);
        due.is("read(1, 2, 0, 21)", x.read(1, 2, 0, 21), EyeRota.BAD);
        due.is("read(1, 2, 0, -1)", x.read(1, 2, 0, -1), EyeRota.BAD);
        due.is("read(4, 2, 0, 1)", x.read(4, 2, 0, 1), EyeRota.BAD);
        due.is("read(-1, 2, 0, 1)", x.read(-1, 2, 0, 1), EyeRota.BAD);
        due.is("read(1, 3, 0, 1)", x.read(1, 3, 0, 1), EyeRota.BAD);
        due.is("read(1, -1, 0, 1)", x.read(1, -1, 0, 1), EyeRota.BAD);
        due.is("torn() stays", x.torn(), 2);
        pair(x, 1, 0, 1, -1);
        due.is("a ONE below 0", x.read(1, 2, 0, 1), -20);
        pair(x, 1, 0, -1, 0);
        due.is("an HOUR below 0", x.read(1, 2, 0, 1), -20);
        pair(x, 1, 0, NONE, NONE);
        due.is("an HOUR of NONE", x.read(1, 2, 0, 1), -20);
    }

    private static void counts() {
        EyeRota x = Due.told("plain 0;dreamer 0;old 0;rota 0 1 5 1 2 0 5 1;work 0 0 0 9;work 1 0 1 4;");
        due.is("count(4)", x.count(4), 13);
        // hours 1 and 3: a dreamer in the morning; hour 5: from 2 to 0; nobody's hours are not DARK
        due.is("count(5)", x.count(5), 3);
        due.is("count(2)", x.count(2), 0);
        x.feed('a');
        due.is("count(2)", x.count(2), 1);
        x.see(0, 0, 0, 0);
        due.is("count(0)", x.count(0), 1);
        due.is("count(6)", x.count(6), EyeRota.BAD);
        due.is("count(-1)", x.count(-1), EyeRota.BAD);
    }
}
