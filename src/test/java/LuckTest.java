/** Promises 29 and 30: hand-overs that are missed; and 35: by a seed. */
public final class LuckTest {
    private static final Due due = new Due("LuckTest");

    public static void main(String[] args) {
        pieces();
        means();
        breaks();
        badNumbers();
        drifts();
        due.close();
    }

    private static void fraction(String call, long over, long under, long wantOver, long wantUnder) {
        due.is(call + ", 0)", over, wantOver);
        due.is(call + ", 1)", under, wantUnder);
    }

    private static void luck(EyeRota x, int v, int i, long over, long under) {
        fraction("luck(" + v + ", " + i, x.luck(v, i, 0), x.luck(v, i, 1), over, under);
    }

    private static void mean(EyeRota x, int v, long over, long under) {
        fraction("mean(" + v, x.mean(v, 0), x.mean(v, 1), over, under);
    }

    private static void pieces() {
        EyeRota x = Due.told("plain 0;plain 0;rota 0 1 0 1 0 1 0 1 0 1;work 0 0 9 4;work 1 1 1 3;work 0 0 2 1;work 1 2 2 9;");
        luck(x, 5, 0, 31, 32);
        luck(x, 1, 0, 99999, 100000);
        luck(x, 3, 0, 99757, 100000);
        luck(x, 10, 0, 0, 1);
        luck(x, 0, 0, 1, 1);
        luck(x, 2, 1, 4, 5);
        luck(x, 7, 2, 51, 100);
        luck(x, 0, 3, 0, 1);
        luck(x, 5, 3, 0, 1);
    }

    private static void means() {
        EyeRota x = Due.told("plain 0;plain 0;rota 0 1 0 1 0 1 0 1 0 1;work 0 0 9 4;work 1 1 1 3;");
        mean(x, 5, 43, 8);
        mean(x, 0, 7, 1);
        mean(x, 10, 0, 1);
        mean(x, 1, 167499, 25000);
        mean(new EyeRota(), 4, 0, 1);
    }

    private static void breaks() {
        // one hand-over for hours 1 to 3; the first of them is dark, but missed it is dark in all
        EyeRota x = Due.told("plain 0;plain 0;plain 0;rota 0 2 2 2 5 2;work 2 1 1 1;work 2 2 3 1;work 2 0 9 1;");
        luck(x, 5, 0, 0, 1);
        luck(x, 5, 1, 1, 2);
        luck(x, 5, 2, 3, 4);
        // a hand-over that is missed does not hide where the eye was by the rota
        EyeRota y = Due.told("plain 0;young 0;rota 0 1;work 1 1 1 1;");
        luck(y, 4, 0, 3, 5);
        // a young one that holds through the evening sees no more, so the hand-over behind a break does not help
        EyeRota z = Due.told("young 0;rota 0 0 0 0 0 0 0 5 0;work 0 5 9 1;");
        luck(z, 4, 0, 3, 5);
    }

    private static void badNumbers() {
        EyeRota x = Due.told("plain 0;rota 0;work 0 0 0 1;");
        due.is("luck(-1, 0, 0)", x.luck(-1, 0, 0), EyeRota.BAD);
        due.is("luck(11, 0, 0)", x.luck(11, 0, 0), EyeRota.BAD);
        due.is("luck(0, 1, 0)", x.luck(0, 1, 0), EyeRota.BAD);
        due.is("luck(0, -1, 0)", x.luck(0, -1, 0), EyeRota.BAD);
        due.is("luck(0, 0, 2)", x.luck(0, 0, 2), EyeRota.BAD);
        due.is("luck(0, 0, -1)", x.luck(0, 0, -1), EyeRota.BAD);
        due.is("mean(-1, 0)", x.mean(-1, 0), EyeRota.BAD);
        due.is("mean(11, 0)", x.mean(11, 0), EyeRota.BAD);
        due.is("mean(0, 2)", x.mean(0, 2), EyeRota.BAD);
        due.is("mean(0, -1)", x.mean(0, -1), EyeRota.BAD);
    }

    private static void drifts() {
        // by seed 1 the draws are 16838, 5758, 10113, 17515: HOUR 8 to 5758 % 3 = 1, HOUR 3 to 17515 % 3 = 1
        EyeRota x = Due.told("plain 0;plain 0;work 1 8 8 5;work 1 3 3 2;work 0 0 0 1;rota 0;");
        due.is("drift(1, 1, 0)", x.drift(1, 1, 0), 6);
        due.is("drift(1, 1, 1)", x.drift(1, 1, 1), 0b100000001);
        due.is("drift(1, 2, 0)", x.drift(1, 2, 0), 14);
        due.is("drift(1, 2, 1)", x.drift(1, 2, 1), 0b100001001);
        due.is("the rota stays", x.rule(4), 1);
        // with one ONE 5758 % 2 = 0, 17515 % 2 = 1: nobody
        EyeRota y = Due.told("plain 0;rota 5 5 5 0;work 0 3 3 2;");
        due.is("nobody is the last number", y.drift(1, 2, 1), 0b100000000);
        due.is("worth behind each", y.drift(1, 2, 0), 2);
        due.is("drift(1, 0, 0)", x.drift(1, 0, 0), EyeRota.BAD);
        due.is("drift(1, 61, 0)", x.drift(1, 61, 0), EyeRota.BAD);
        due.is("drift(1, 1, 2)", x.drift(1, 1, 2), EyeRota.BAD);
        due.is("drift(1, 1, -1)", x.drift(1, 1, -1), EyeRota.BAD);
        due.is("bad ahead of nobody", new EyeRota().drift(1, 0, 0), EyeRota.BAD);
        due.is("nobody there", new EyeRota().drift(1, 60, 1), EyeRota.STATE);
    }
}
