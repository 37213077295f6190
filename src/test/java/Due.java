/** Counts the calls whose answer is not the one that is due. */
final class Due {
    private final String name;
    private int asked;
    private int wrong;

    Due(String name) {
        this.name = name;
    }

    void is(String call, long got, long want) {
        asked++;
        if (got != want) {
            wrong++;
            System.out.println(name + ": " + call + " answered " + got + ", due is " + want);
        }
    }

    /** Lays a text on the tape, without reading it. */
    static void type(EyeRota x, String text) {
        for (char c : text.toCharArray()) {
            x.feed(c);
        }
    }

    static int tell(EyeRota x, String text) {
        type(x, text);
        return x.text();
    }

    static EyeRota told(String text) {
        EyeRota x = new EyeRota();
        int lines = tell(x, text);
        if (lines < 0) {
            throw new IllegalStateException("the test's own text has a fault: " + text);
        }
        return x;
    }

    void close() {
        System.out.println(name + ": " + asked + " answers asked, " + wrong + " not as due");
        if (wrong != 0) {
            System.exit(1);
        }
    }
}
