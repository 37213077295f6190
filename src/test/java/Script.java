import java.lang.reflect.InvocationTargetException;
import java.lang.reflect.Method;
import java.lang.reflect.Modifier;
import java.util.ArrayList;
import java.util.HashMap;
import java.util.List;
import java.util.Map;

/**
 * A row of calls on one new object, told in a text with the answers that are due:
 * <pre>
 *   end(3)=BAD               one call and its answer; without = the answer is not looked at
 *   6*see(0,0,0,1)=1..       six calls, whose answers count up from 1
 *   rota(0..3)=[0,NONE,1,2]  four calls, one answer each (or one answer for all of them)
 *   'plain 0;'               the bytes come on the tape
 *   "plain 0;"               the bytes come, and text() takes them
 *   "plain 0;rota;"=2        likewise, of two lines
 *   "plain 3;"=3@6           likewise, but text() and fault() tell FAULT 3 at place 6
 * </pre>
 */
final class Script {
    private static final int CALL_LIMIT = 512;
    private static final Map<String, Method> FACE = face();

    private final Due due;
    private final String name;
    private final String script;
    private final EyeRota x = new EyeRota();
    private int at;
    private int calls;
    private int looks;

    private Script(Due due, String name, String script) {
        this.due = due;
        this.name = name;
        this.script = script;
    }

    static void run(Due due, String name, String script) {
        Script s = new Script(due, name, script);
        for (s.passBlanks(); s.at < script.length(); s.passBlanks()) {
            s.takeItem();
        }
        due.is(name + ": the case looks at an answer", s.looks > 0 ? 1 : 0, 1);
        due.is(name + ": the case keeps to 512 calls", s.calls <= CALL_LIMIT ? 1 : 0, 1);
    }

    private static Map<String, Method> face() {
        Map<String, Method> all = new HashMap<>();
        for (Method m : EyeRota.class.getDeclaredMethods()) {
            if (Modifier.isPublic(m.getModifiers())) {
                all.put(m.getName(), m);
            }
        }
        return all;
    }

    static long call(EyeRota x, String method, int... numbers) {
        Method m = FACE.get(method);
        if (m == null || m.getParameterCount() != numbers.length) {
            throw new IllegalStateException("the document's face has no " + method + " of " + numbers.length);
        }
        Object[] boxed = new Object[numbers.length];
        for (int i = 0; i < numbers.length; i++) {
            boxed[i] = numbers[i];
        }
        try {
            return ((Number) m.invoke(x, boxed)).longValue();
        } catch (InvocationTargetException | IllegalAccessException e) {
            throw new IllegalStateException(method + java.util.Arrays.toString(numbers) + " threw", e);
        }
    }

    // ---- the script's own text

    private void passBlanks() {
        while (at < script.length() && Character.isWhitespace(script.charAt(at))) {
            at++;
        }
    }

    private String upTo(char end) {
        int stop = script.indexOf(end, at);
        if (stop < 0) {
            throw new IllegalStateException(name + ": no " + end + " behind " + script.substring(at));
        }
        String part = script.substring(at, stop);
        at = stop + 1;
        return part;
    }

    /** What stands behind an = that follows at once, or nothing. */
    private String dueAnswer() {
        if (at >= script.length() || script.charAt(at) != '=') {
            return "";
        }
        int start = ++at;
        while (at < script.length() && !Character.isWhitespace(script.charAt(at))) {
            at++;
        }
        return script.substring(start, at);
    }

    private void takeItem() {
        char c = script.charAt(at);
        if (c == '\'') {
            at++;
            lay(upTo('\''));
        } else if (c == '"') {
            at++;
            String text = upTo('"');
            tellText(text, dueAnswer());
        } else {
            String head = upTo('(');
            int star = head.indexOf('*');
            int times = star < 0 ? 1 : Integer.parseInt(head.substring(0, star));
            String numbers = upTo(')');
            callAll(head.substring(star + 1), numbers, times, dueAnswer());
        }
    }

    private void lay(String bytes) {
        for (char c : bytes.toCharArray()) {
            x.feed(c);
            calls++;
        }
    }

    private void tellText(String text, String want) {
        lay(text);
        int got = x.text();
        int fault = x.fault();
        calls += 2;
        String call = "text() of \"" + text + "\"";
        int mark = want.indexOf('@');
        if (mark >= 0) {
            look(call, got, -10 - number(want.substring(mark + 1)));
            look("fault() of \"" + text + "\"", fault, number(want.substring(0, mark)));
        } else if (want.isEmpty()) {
            due.is(name + ": " + call + " is taken", got >= 0 ? 1 : 0, 1);
        } else {
            look(call, got, number(want));
            look("fault() of \"" + text + "\"", fault, 0);
        }
    }

    private void look(String call, long got, long want) {
        looks++;
        due.is(name + ": " + call, got, want);
    }

    private void callAll(String method, String numbers, int times, String want) {
        int made = 0;
        for (int time = 0; time < times; time++) {
            for (int[] each : spread(numbers)) {
                long got = call(x, method, each);
                calls++;
                if (!want.isEmpty()) {
                    look(method + java.util.Arrays.toString(each), got, wanted(want, made));
                }
                made++;
            }
        }
    }

    private long wanted(String want, int i) {
        if (want.startsWith("[")) {
            String[] each = want.substring(1, want.length() - 1).split(",");
            if (i >= each.length) {
                throw new IllegalStateException(name + ": too few answers in " + want);
            }
            return number(each[i]);
        }
        return want.endsWith("..") ? number(want.substring(0, want.length() - 2)) + i : number(want);
    }

    /** All rows of numbers that "0..2,5" stands for; the last number goes fastest. */
    private static List<int[]> spread(String numbers) {
        List<int[]> rows = new ArrayList<>();
        rows.add(new int[0]);
        if (numbers.isBlank()) {
            return rows;
        }
        for (String part : numbers.split(",")) {
            int dots = part.indexOf("..");
            int first = (int) number(dots < 0 ? part : part.substring(0, dots));
            int last = dots < 0 ? first : (int) number(part.substring(dots + 2));
            List<int[]> longer = new ArrayList<>();
            for (int[] row : rows) {
                for (int v = first; v <= last; v++) {
                    int[] more = java.util.Arrays.copyOf(row, row.length + 1);
                    more[row.length] = v;
                    longer.add(more);
                    if (v == Integer.MAX_VALUE) {
                        break;
                    }
                }
            }
            rows = longer;
        }
        return rows;
    }

    private static long number(String word) {
        switch (word.trim()) {
            case "BAD": return -1;
            case "STATE": return -2;
            case "FULL": return -3;
            case "NONE": return -4;
            case "MIN": return Integer.MIN_VALUE;
            case "MAX": return Integer.MAX_VALUE;
            default: break;
        }
        String w = word.trim();
        return w.startsWith("0b") ? Long.parseLong(w.substring(2), 2) : Long.parseLong(w);
    }
}
