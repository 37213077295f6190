import java.util.Arrays;

/**
 * Each number of each call: within its bounds it is not BAD; one below, one above and the least and the most that an
 * int can be are refused, and what is refused changes nothing: a twin that was not asked answers all else alike.
 */
public final class BoundsTest {
    private static final Due due = new Due("BoundsTest");
    private static final int NONE = EyeRota.NONE;
    private static final int BAD = EyeRota.BAD;
    private static final int SIZE = -14;

    /** KIN, TURNS, WORK and TELLINGS of other numbers each, so that none has another's bound. */
    private static final String TEXT = "plain 0;young 1;old 2;turn 3 1 7;turn 5 0 8;rota 0 1 2 5 0 0 1 1;"
            + "work 1 1 4 5;work 2 0 9 2;work 0 8 9 3;work 1 9 9 1;tell 2 1 0 1;";
    private static final String TAPE = "old 0;plain 1";

    public static void main(String[] args) {
        theText();
        whatIsChanged();
        whatIsSeen();
        whatIsBest();
        whoHadIt();
        imagesAndSheets();
        fullAndState();
        due.close();
    }

    // ---- the object that is asked

    private static EyeRota fixture() {
        EyeRota x = Due.told(TEXT);
        x.paint(1, 4);
        x.keep(1);
        x.paint(2, 5);
        x.see(0, 0, 0, 0);
        x.see(1, 1, 1, 4);
        x.sheet(0, 0, 5);
        x.lay(0, 0, 9);
        x.lay(0, 1, 2);
        x.lay(0, 2, 4);
        x.sheet(1, 1, 40);
        x.lay(1, 39, 1);
        x.sheet(2, 2, 0);
        x.read(0, 1, 0, 1);
        Due.tell(x, "x");
        Due.type(x, TAPE);
        return x;
    }

    /**
     * All that an object answers, the last of it by calls that change it: it is used no more behind this.
     * With what fixture() and fill() ask it stays below the document's 512 calls of an object.
     */
    private static String told(EyeRota x) {
        StringBuilder s = new StringBuilder();
        s.append(x.fault()).append(' ').append(x.torn()).append(' ');
        for (int what = 0; what < 6; what++) {
            s.append(x.rule(what)).append(' ').append(x.count(what)).append(' ');
        }
        for (int h = 0; h < 10; h++) {
            s.append(x.rota(h)).append(' ').append(x.may(h)).append(' ').append(x.best(10 + h)).append(' ');
        }
        for (int k = 0; k < 5; k++) {
            s.append(x.one(k, 0)).append(x.one(k, 1)).append(' ').append(x.work(k, 0)).append(x.work(k, 1))
                    .append(x.work(k, 2)).append(x.work(k, 3)).append(' ').append(x.turn(k, 0)).append(x.turn(k, 1))
                    .append(x.turn(k, 2)).append(' ').append(x.telling(k, 0)).append(x.telling(k, 1))
                    .append(x.telling(k, 2)).append(x.telling(k, 3)).append(' ');
        }
        for (int i = 0; i < 3; i++) {
            s.append(x.thing(i, NONE)).append(' ').append(x.thing(i, 9)).append(' ').append(x.right(i, 9, 0)).append(' ');
        }
        for (int sheet = 0; sheet < 4; sheet++) {
            for (int lane = 0; lane < 3; lane++) {
                for (int f : new int[] {0, 1, 2, 38}) {
                    s.append(x.read(sheet, lane, f, 1)).append(' ');
                }
                s.append(x.torn()).append(x.rule(4)).append(' ');
            }
        }
        for (int image = 1; image >= 0; image--) {
            s.append(x.back(image)).append(x.thing(2, NONE)).append(x.rule(4)).append(x.rule(2)).append(' ');
        }
        x.feed(';');
        return s.append(x.text()).append(' ').append(x.rule(0)).append(x.one(0, 0)).append(x.one(1, 1)).toString();
    }

    private static void refused(long answer, String call, int... numbers) {
        EyeRota x = fixture();
        String name = call + Arrays.toString(numbers);
        due.is(name, Script.call(x, call, numbers), answer);
        due.is(name + " changed nothing", told(x).equals(told(fixture())) ? 1 : 0, 1);
    }

    private static void within(String call, int... numbers) {
        long got = Script.call(fixture(), call, numbers);
        due.is(call + Arrays.toString(numbers) + " is not BAD", got == BAD ? 1 : 0, 0);
    }

    private static int[] with(int[] numbers, int at, int v) {
        int[] copy = numbers.clone();
        copy[at] = v;
        return copy;
    }

    /** A number of a call has these bounds, if all others are as given; NONE may be allowed beside them. */
    private static void bound(String call, int at, int least, int most, boolean orNone, int... numbers) {
        for (int v = least; v <= most; v++) {
            within(call, with(numbers, at, v));
        }
        if (orNone) {
            within(call, with(numbers, at, NONE));
        }
        int[] outside = {least - 1, most + 1, least - 2, most + 2, -5, NONE, -3, -2, Integer.MIN_VALUE, Integer.MAX_VALUE};
        for (int v : outside) {
            boolean isOutside = (v < least || v > most) && !(orNone && v == NONE);
            if (isOutside) {
                refused(BAD, call, with(numbers, at, v));
            }
        }
    }

    private static void bound(String call, int at, int least, int most, int... numbers) {
        bound(call, at, least, most, false, numbers);
    }

    // ---- the calls

    private static void theText() {
        bound("feed", 0, 0, 127, 0);
        bound("end", 0, 0, TAPE.length(), 0);
        bound("rule", 0, 0, 5, 0);
        bound("one", 0, 0, 2, 0, 0);
        bound("one", 1, 0, 4, 2, 0);
        bound("thing", 0, 0, 2, 0, 9);
        bound("thing", 1, 0, 9, true, 2, 0);
        bound("rota", 0, 0, 9, 0);
        bound("turn", 0, 0, 1, 0, 0);
        bound("turn", 1, 0, 2, 1, 0);
        bound("work", 0, 0, 3, 0, 4);
        bound("work", 0, 0, 3, 0, 0);
        bound("work", 1, 0, 4, 3, 0);
        bound("telling", 0, 0, 0, 0, 0);
        bound("telling", 1, 0, 3, 0, 0);
    }

    private static void whatIsChanged() {
        bound("alter", 0, 0, 2, 0, 1, 2);
        bound("alter", 1, 0, 1, 0, 0, 2);
        bound("alter", 2, 0, 3, 0, 0, 0);
        bound("alter", 2, 0, 2, 0, 1, 0);
        bound("paint", 0, 0, 2, 0, 9);
        bound("paint", 1, 0, 9, 0, 0);
        bound("shift", 0, 0, 9, 0, 0);
        bound("shift", 0, 0, 9, 0, NONE);
        bound("shift", 1, 0, 2, true, 9, 0);
        bound("assign", 0, 0, 2, 0, 0, 9, 1);
        bound("assign", 1, 0, 9, 0, 0, 9, 1);
        bound("assign", 1, 0, 4, 0, 0, 4, 1);
        bound("assign", 2, 0, 9, 0, 0, 0, 1);
        bound("assign", 2, 4, 9, 0, 4, 0, 1);
        bound("assign", 3, 1, 9, 0, 0, 9, 0);
        bound("change", 0, 0, 9, 0, 0, 0);
        bound("change", 1, 0, 2, 0, 0, 0);
        bound("change", 2, 0, 9, 0, 0, 0);
        bound("tell", 0, 0, 9, 0, 0, 1, 0);
        bound("tell", 1, 1, 2, 0, 0, 0, 0);
        bound("tell", 1, 0, 1, 0, 0, 2, 0);
        bound("tell", 2, 1, 2, 0, 0, 0, 0);
        bound("tell", 2, 0, 1, 0, 2, 0, 0);
        bound("tell", 3, 0, 2, 0, 0, 1, 0);
        bound("drop", 0, 1, 3, 0, 0);
        bound("drop", 1, 0, 2, 1, 0);
        bound("drop", 1, 0, 4, 2, 0);
        bound("drop", 1, 0, 1, 3, 0);
    }

    private static void whatIsSeen() {
        bound("sees", 0, 0, 9, 0);
        bound("belief", 0, 0, 2, 0, 0, 0, 0);
        bound("belief", 1, 0, 2, 0, 0, 0, 0);
        bound("belief", 2, 0, 9, 0, 0, 0, 0);
        bound("belief", 3, 0, 1, 0, 0, 0, 0);
        bound("right", 0, 0, 2, 0, 0, 0);
        bound("right", 1, 0, 9, 0, 0, 0);
        bound("right", 2, 0, 1, 0, 0, 0);
        bound("wrong", 0, 0, 2, 0, 0);
        bound("wrong", 1, 0, 2, 0, 0);
        bound("done", 0, 0, 1, 0);
    }

    private static void whatIsBest() {
        bound("best", 0, 0, 0, 0);
        bound("best", 0, 10, 19, 10);
        bound("swap", 0, 0, 1, 0);
        bound("give", 0, 0, 1, 0);
        bound("mend", 0, 0, 2, 0);
        bound("luck", 0, 0, 10, 0, 0, 0);
        bound("luck", 1, 0, 3, 0, 0, 0);
        bound("luck", 2, 0, 1, 0, 0, 0);
        bound("mean", 0, 0, 10, 0, 0);
        bound("mean", 1, 0, 1, 0, 0);
    }

    private static void whoHadIt() {
        bound("see", 0, 0, 2, 0, 0, 0, 0);
        bound("see", 1, 0, 2, 0, 0, 0, 0);
        bound("see", 2, 0, 9, 0, 0, 0, 0);
        bound("see", 3, 0, 9, true, 0, 0, 0, 0);
        bound("forget", 0, 0, 2, 0);
        bound("may", 0, 0, 9, 0);
        bound("ask", 0, 0, 9, 0, 0);
        bound("ask", 1, 0, 1, 0, 0);
        bound("drift", 1, 1, 60, 1, 0, 0);
        bound("drift", 2, 0, 1, 1, 1, 0);
    }

    private static void imagesAndSheets() {
        bound("keep", 0, 0, 1, 0);
        bound("back", 0, 0, 1, 0);
        bound("sheet", 0, 0, 3, 0, 0, 0);
        bound("sheet", 1, 0, 2, 0, 0, 0);
        for (int n = 0; n <= 40; n++) {
            within("sheet", 0, 0, n);
        }
        refused(BAD, "sheet", 0, 0, 41);
        refused(BAD, "sheet", 0, 0, Integer.MAX_VALUE);
        refused(SIZE, "sheet", 0, 0, -1);
        refused(SIZE, "sheet", 0, 2, Integer.MIN_VALUE);
        bound("lay", 0, 0, 3, 0, 0, 0);
        refused(-11, "lay", 3, 0, 1);
        refused(-12, "lay", 0, 5, 1);
        refused(-12, "lay", 0, -1, 1);
        refused(-12, "lay", 2, 0, 1);
        refused(-12, "lay", 1, Integer.MIN_VALUE, 1);
        refused(-12, "lay", 1, Integer.MAX_VALUE, 1);
        bound("read", 0, 0, 3, 0, 0, 0, 0);
        bound("read", 1, 0, 2, 0, 0, 0, 0);
        bound("read", 3, 0, 20, 1, 1, 0, 0);
        // the second CELL pair of SHEET 0 is HOUR 4 and ONE 0, its CELLS 1 and 2 are HOUR 2 and a ONE that is not
        refused(-20, "read", 0, 0, 1, 1);
        refused(-20, "read", 0, 0, 1, 2);
        bound("count", 0, 0, 5, 0);
    }

    /** What is refused where there is no room, or no such state. */
    private static void fullAndState() {
        refused(EyeRota.STATE, "back", 0);
        refusedWhenFull("feed", 32);
        refusedWhenFull("assign", 2, 3, 4, 5);
        refusedWhenFull("change", 3, 2, 1);
        refusedWhenFull("tell", 3, 2, 1, 0);
        refusedWhenFull("see", 2, 2, 2, 2);
        EyeRota nobody = new EyeRota();
        due.is("drift of nobody", nobody.drift(1, 1, 0), EyeRota.STATE);
        due.is("drift of nobody changed nothing", told(nobody).equals(told(new EyeRota())) ? 1 : 0, 1);
    }

    private static void refusedWhenFull(String call, int... numbers) {
        EyeRota x = fill(fixture(), call, numbers);
        due.is(call + " one too many", Script.call(x, call, numbers), EyeRota.FULL);
        String twin = told(fill(fixture(), call, numbers));
        due.is(call + " one too many changed nothing", told(x).equals(twin) ? 1 : 0, 1);
    }

    /** Up to the limit by other numbers than the one that is refused. */
    private static EyeRota fill(EyeRota x, String call, int... numbers) {
        int[] limits = {160, 5, 4, 4, 6};
        int[] there = {TAPE.length(), 4, 2, 1, 2};
        int which = Arrays.asList("feed", "assign", "change", "tell", "see").indexOf(call);
        int[] others = numbers.clone();
        others[0]--;
        for (int i = there[which]; i < limits[which]; i++) {
            due.is(call + " the " + (i + 1), Script.call(x, call, others), i + 1);
        }
        return x;
    }
}
