/** Promises 1 to 5: a new object, the tape, the text and its faults. */
public final class TextTest {
    private static final Due due = new Due("TextTest");

    public static void main(String[] args) {
        newObject();
        tape();
        taken();
        noTokens();
        misplaced();
        bounds();
        toldTwice();
        tooMany();
        noSuchOne();
        firstMet();
        faultStays();
        due.close();
    }

    private static void newObject() {
        EyeRota x = new EyeRota();
        for (int what = 0; what < 6; what++) {
            due.is("new: rule(" + what + ")", x.rule(what), 0);
        }
        for (int hour = 0; hour < 10; hour++) {
            due.is("new: rota(" + hour + ")", x.rota(hour), EyeRota.NONE);
        }
        for (int k = 0; k < 4; k++) {
            due.is("new: lay(" + k + ", 0, 0)", x.lay(k, 0, 0), -11);
        }
        due.is("new: fault()", x.fault(), 0);
        due.is("new: torn()", x.torn(), 0);
        due.is("new: count(0)", x.count(0), 0);
        due.is("new: count(1)", x.count(1), 0);
        due.is("new: count(2)", x.count(2), 0);
        due.is("new: count(3)", x.count(3), EyeRota.NONE);
        due.is("new: thing(2, NONE)", x.thing(2, EyeRota.NONE), 0);
        due.is("new: one(0, 0)", x.one(0, 0), EyeRota.BAD);
    }

    private static void tape() {
        EyeRota x = new EyeRota();
        due.is("feed(-1)", x.feed(-1), EyeRota.BAD);
        due.is("feed(128)", x.feed(128), EyeRota.BAD);
        due.is("feed(0)", x.feed(0), 1);
        due.is("feed(127)", x.feed(127), 2);
        due.is("end(3)", x.end(3), EyeRota.BAD);
        due.is("end(-1)", x.end(-1), EyeRota.BAD);
        due.is("end(2)", x.end(2), 2);
        due.is("end(0)", x.end(0), 2);
        due.is("end(0) again", x.end(0), 0);
        for (int i = 1; i <= 160; i++) {
            due.is("feed to " + i, x.feed(' '), i);
        }
        due.is("feed the 161st", x.feed(' '), EyeRota.FULL);
        due.is("feed a bad one when full", x.feed(200), EyeRota.BAD);
        due.is("bytes", x.count(2), 160);
        due.is("end(159)", x.end(159), 160);
        due.is("feed again", x.feed(' '), 160);
        due.is("text of blanks", x.text(), 0);
        due.is("tape behind text", x.count(2), 0);
        Due.type(x, "plain 0;old 2;junk");
        due.is("end cuts junk", x.end(14), 18);
        due.is("text behind a cut", x.text(), 2);
    }

    private static void taken() {
        EyeRota x = new EyeRota();
        due.is("lines", Due.tell(x, "  tell 09 1 00 2 ;work 1 9 9 9;rota1 5 0;turn 9 2 9;thing 2 09;dreamer 2;plain0;"), 7);
        due.is("fault of it", x.fault(), 0);
        due.is("kin", x.rule(0), 2);
        due.is("kind 0", x.one(0, 0), 3);
        due.is("post 0", x.one(0, 1), 2);
        due.is("kind 1", x.one(1, 0), 0);
        due.is("telling hour", x.telling(0, 0), 9);
        due.is("telling whom", x.telling(0, 2), 0);
        due.is("rota 0", x.rota(0), 1);
        due.is("rota 1", x.rota(1), EyeRota.NONE);
        due.is("rota 2", x.rota(2), 0);
        due.is("rota 3", x.rota(3), EyeRota.NONE);
        due.is("thing 2", x.thing(2, 8), 9);
        x.see(0, 0, 0, 1);
        x.keep(0);
        x.keep(1);
        x.sheet(0, 0, 7);
        due.is("in place of it", Due.tell(x, "young 1;"), 1);
        due.is("kin then", x.rule(0), 1);
        due.is("turns then", x.rule(1), 0);
        due.is("work then", x.rule(2), 0);
        due.is("tellings then", x.rule(3), 0);
        due.is("hours held then", x.rule(4), 0);
        due.is("thing 2 then", x.thing(2, EyeRota.NONE), 0);
        due.is("seen then", x.count(0), 0);
        due.is("images then", x.count(1), 0);
        due.is("back(0) then", x.back(0), EyeRota.STATE);
        due.is("sheet then", x.count(3), 7);
        due.is("empty text", x.text(), 0);
        due.is("kin behind an empty text", x.rule(0), 0);
    }

    private static void fault(String text, int fault, int place) {
        EyeRota x = Due.told("old 1;rota 0;");
        x.keep(1);
        x.see(0, 1, 0, 0);
        due.is("\"" + text + "\"", Due.tell(x, text), -10 - place);
        due.is("fault of \"" + text + "\"", x.fault(), fault);
        due.is("tape behind \"" + text + "\"", x.count(2), 0);
        due.is("kin behind \"" + text + "\"", x.rule(0), 1);
        due.is("rota behind \"" + text + "\"", x.rota(0), 0);
        due.is("seen behind \"" + text + "\"", x.count(0), 1);
        due.is("images behind \"" + text + "\"", x.count(1), 1);
    }

    private static void noTokens() {
        fault("Plain 0;", 1, 0);
        fault("plain\t0;", 1, 5);
        fault("plain 0;,", 1, 8);
        fault("plain -1;", 1, 6);
        fault("plain 100;", 1, 6);
        fault("plain 0000;", 1, 6);
        fault("rota 5 5 5 5 5 5 5 5 5 5 555;", 1, 25);
        fault(" 123", 1, 1);
        fault("{", 1, 0);
        fault("`", 1, 0);
        fault("plain /;", 1, 6);
        fault("plain :;", 1, 6);
    }

    private static void misplaced() {
        fault("plan 0;", 2, 0);
        fault("plains 0;", 2, 0);
        fault("plai 0;", 2, 0);
        fault("thin 0 0;", 2, 0);
        fault("plain 0;oldold 1;", 2, 8);
        fault(";", 2, 0);
        fault("  7;", 2, 2);
        fault("plain;", 2, 5);
        fault("plain 0 0;", 2, 8);
        fault("plain old;", 2, 6);
        fault("plain 0", 2, 7);
        fault("plain 0  ", 2, 9);
        fault("plain", 2, 5);
        fault("thing 0;", 2, 7);
        fault("turn 0 0;", 2, 8);
        fault("work 0 0 0;", 2, 10);
        fault("tell 0 0 1;", 2, 10);
        fault("tell 0 0 1 0 0;", 2, 13);
        fault("rota 0 old;", 2, 7);
        fault("rota 5 5 5 5 5 5 5 5 5 old;", 2, 23);
        fault("rota 5 5 5 5 5 5 5 5 5 5 rota;", 2, 25);
        fault("rota 5 5 5 5 5 5 5 5 5 5old", 2, 24);
        fault("rota 5 5 5 5 5 5 5 5 5 5", 2, 24);
        fault("plain 0;;", 2, 8);
    }

    private static void bounds() {
        fault("young 3;", 3, 6);
        fault("thing 3 0;", 3, 6);
        fault("thing 0 10;", 3, 8);
        fault("turn 10 0 0;", 3, 5);
        fault("turn 9 3 0;", 3, 7);
        fault("turn 9 2 10;", 3, 9);
        fault("rota 5 6;", 3, 7);
        fault("work 5 0 0 1;", 3, 5);
        fault("work 0 10 0 1;", 3, 7);
        fault("work 0 4 3 1;", 3, 9);
        fault("work 0 4 10 1;", 3, 9);
        fault("work 0 4 4 0;", 3, 11);
        fault("work 0 4 4 10;", 3, 11);
        fault("tell 10 0 1 0;", 3, 5);
        fault("tell 0 5 1 0;", 3, 7);
        fault("tell 0 0 5 0;", 3, 9);
        fault("tell 0 4 4 0;", 3, 9);
        fault("tell 0 0 1 3;", 3, 11);
    }

    private static void toldTwice() {
        fault("rota;old 1;rota;", 4, 11);
        fault("rota 5;rota", 4, 7);
        fault("thing 1 0;thing 0 0;thing 1 0;", 4, 26);
        fault("thing 2 3;thing 2", 4, 16);
    }

    private static void tooMany() {
        fault("old 1;old 1;young 1;old 1;plain 1;dreamer;", 5, 34);
        fault("turn 0 0 0;turn 0 0 0;turn 0 0 0;turn 0 0 0;turn", 5, 44);
        fault("work 0 0 0 1;work 0 0 0 1;work 0 0 0 1;work 0 0 0 1;work 0 0 0 1;work;", 5, 65);
        fault("tell 0 0 1 0;tell 0 0 1 0;tell 0 0 1 0;tell 0 0 1 0;tell;", 5, 52);
        fault("rota 5 5 5 5 5 5 5 5 5 5 5;", 5, 25);
        fault("rota 5 5 5 5 5 5 5 5 5 5 99;", 5, 25);
        fault("rota 5 5 5 5 5 5 5 5 5 5 6;", 5, 25);
        fault("rota 5 5 5 5 5 5 5 5 5 5 5", 5, 25);
        EyeRota x = new EyeRota();
        due.is("all that may be of KIN, turns, rota",
                Due.tell(x, "old 1;old 1;old 1;old 1;old 1;turn 0 0 0;turn 0 0 0;turn 0 0 0;turn 0 0 0;rota 0 1 2 3 4 4 3 2 1 0;"), 10);
        due.is("all that may be of work, tellings",
                Due.tell(x, "old 0;old 1;work 0 0 0 1;work 0 0 0 1;work 0 0 0 1;work 0 0 0 1;work 0 0 0 1;tell 0 0 1 0;tell 0 0 1 0;tell 0 0 1 0;tell 0 0 1 0;"), 11);
    }

    private static void noSuchOne() {
        fault("rota 0;", 6, 7);
        fault("plain 0;rota 0 1;  ", 6, 19);
        fault("work 1 0 0 1;plain 0;", 6, 21);
        fault("tell 0 0 1 0;plain 0;", 6, 21);
        fault("tell 0 1 0 0;plain 0;", 6, 21);
        EyeRota x = new EyeRota();
        due.is("named ahead of being there", Due.tell(x, "rota 1;work 1 0 0 1;tell 0 1 0 0;old 0;old 0;"), 5);
    }

    private static void firstMet() {
        fault("plain 9@", 3, 6);
        fault("plain 0 @", 1, 8);
        fault("plain 0@", 1, 7);
        fault("rota 0;plain 3;", 3, 13);
        fault("tell 0 1 1 9999;", 3, 9);
        fault("plain 3 123", 3, 6);
    }

    private static void faultStays() {
        EyeRota x = new EyeRota();
        Due.tell(x, "x");
        due.is("fault", x.fault(), 2);
        due.is("fault again", x.fault(), 2);
        x.feed('a');
        due.is("fault behind feed", x.fault(), 2);
        x.end(0);
        x.text();
        due.is("fault behind a good text", x.fault(), 0);
    }
}
