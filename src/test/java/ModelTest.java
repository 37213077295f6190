import java.util.Random;

/** Promises 1 to 42: random runs of calls, each answer compared with that of Model. */
public final class ModelTest {
    private static final Due due = new Due("ModelTest");
    private static final int RUNS = 2500;
    private static final int[] ODD = {-5, -4, -3, -2, -1, 0, 1, 2, 3, 4, 5, 6, 9, 10, 11, 19, 20, 21, 40, 41, 60, 61,
        127, 128, 255, 256, 65535, 65532, Integer.MAX_VALUE, Integer.MAX_VALUE - 1, Integer.MIN_VALUE};

    private final Random random;
    private final EyeRota x = new EyeRota();
    private final Model m = new Model();
    private final int run;

    private ModelTest(int run) {
        this.run = run;
        this.random = new Random(run);
    }

    public static void main(String[] args) {
        for (int run = 0; run < RUNS; run++) {
            new ModelTest(run).go();
        }
        due.close();
    }

    private void go() {
        int calls = 0;
        if (random.nextInt(8) > 0) {
            calls += typeText(goodText());
        }
        while (calls < 500) {
            if (random.nextInt(150) == 0) {
                calls += typeText(random.nextInt(3) == 0 ? goodText() : spoil(goodText()));
            }
            call(random.nextInt(60));
            calls++;
        }
    }

    private void same(String call, long got, long want) {
        due.is("run " + run + ": " + call, got, want);
    }

    /** A number up to a bound for the most part, and now and then one that is odd. */
    private int num(int lo, int hi) {
        return random.nextInt(25) == 0 ? ODD[random.nextInt(ODD.length)] : lo + random.nextInt(hi - lo + 1);
    }

    private int who() {
        return num(0, Math.max(0, m.w.kin.size() - 1));
    }

    private int whoOrNone() {
        return random.nextInt(5) == 0 ? EyeRota.NONE : who();
    }

    private int typeText(String text) {
        for (char c : text.toCharArray()) {
            same("feed(" + (int) c + ")", x.feed(c), m.feed(c));
        }
        same("text() of " + text, x.text(), m.text());
        same("fault() of " + text, x.fault(), m.fault);
        compareState();
        return text.length() + 2;
    }

    private String pick(int bound) {
        return (random.nextInt(12) == 0 ? "0" : "") + random.nextInt(bound) + "  ".substring(random.nextInt(2));
    }

    private String goodText() {
        StringBuilder t = new StringBuilder();
        int n = 1 + random.nextInt(5);
        String[] kinds = {"plain ", "young ", "old ", "dreamer "};
        for (int k = 0; k < n; k++) {
            t.append(kinds[random.nextInt(4)]).append(pick(3)).append(';');
        }
        if (random.nextInt(4) > 0) {
            t.append("rota ");
            int hours = random.nextInt(11);
            int k = random.nextInt(n);
            for (int h = 0; h < hours; h++) {
                if (random.nextInt(3) > 0) {
                    k = random.nextInt(n);
                }
                t.append(random.nextInt(6) == 0 ? "5" : "" + k).append(' ');
            }
            t.append(';');
        }
        if (random.nextBoolean()) {
            t.append("thing ").append(pick(3)).append(pick(10)).append(';');
        }
        int lines = random.nextInt(6);
        for (int l = 0; l < lines; l++) {
            int what = random.nextInt(3);
            int from = random.nextInt(10);
            if (what == 0) {
                t.append("turn ").append(pick(10)).append(pick(3)).append(pick(10)).append(';');
            } else if (what == 1) {
                int to = random.nextBoolean() ? from : from + random.nextInt(10 - from);
                t.append("work ").append(pick(n)).append(from).append(' ').append(to)
                        .append(' ').append(1 + random.nextInt(9)).append(';');
            } else if (n > 1) {
                int k = random.nextInt(n);
                t.append("tell ").append(pick(10)).append(k).append(' ')
                        .append((k + 1 + random.nextInt(n - 1)) % n).append(' ').append(pick(3)).append(';');
            }
        }
        return t.length() > 160 ? t.substring(0, 160) : t.toString();
    }

    private String spoil(String text) {
        StringBuilder t = new StringBuilder(text);
        int changes = 1 + random.nextInt(2);
        for (int c = 0; c < changes && t.length() > 0; c++) {
            int at = random.nextInt(t.length());
            String signs = "0123456789; az@A";
            char sign = signs.charAt(random.nextInt(signs.length()));
            int how = random.nextInt(4);
            if (how == 0) {
                t.deleteCharAt(at);
            } else if (how == 1) {
                t.setCharAt(at, sign);
            } else if (how == 2) {
                t.insert(at, sign);
            } else {
                int stop = t.indexOf(";");
                String line = t.substring(0, stop + 1);
                t.append(line).append(line);
            }
        }
        return t.length() > 160 ? t.substring(0, 160) : t.toString();
    }

    private void compareState() {
        for (int what = 0; what < 6; what++) {
            same("rule(" + what + ")", x.rule(what), m.rule(what));
            same("count(" + what + ")", x.count(what), m.count(what));
        }
        for (int h = 0; h < 10; h++) {
            same("rota(" + h + ")", x.rota(h), m.rota(h));
        }
    }

    private void call(int which) {
        if (which < 12) {
            change(which);
        } else if (which < 40) {
            look(which);
        } else {
            other(which);
        }
    }

    private void change(int which) {
        int a = num(0, 9), b = num(0, 2), c = num(0, 9), k = who(), j = who();
        switch (which) {
            case 0: {
                int what = num(0, 1);
                same("alter(" + k + ", " + what + ", " + b + ")", x.alter(k, what, b), m.alter(k, what, b));
                break;
            }
            case 1:
                same("paint(" + b + ", " + c + ")", x.paint(b, c), m.paint(b, c));
                break;
            case 2: case 3: case 4: {
                int w = whoOrNone();
                same("shift(" + a + ", " + w + ")", x.shift(a, w), m.shift(a, w));
                break;
            }
            case 5: {
                // short pieces in the middle of the day contend for the eye
                int from = num(0, 5), worth = num(1, 9), to = random.nextBoolean() ? a : from + random.nextInt(2);
                String call = "assign(" + k + ", " + from + ", " + to + ", " + worth + ")";
                same(call, x.assign(k, from, to, worth), m.assign(k, from, to, worth));
                break;
            }
            case 6:
                same("change(" + a + ", " + b + ", " + c + ")", x.change(a, b, c), m.change(a, b, c));
                break;
            case 7:
                same("tell(" + a + ", " + k + ", " + j + ", " + b + ")", x.tell(a, k, j, b), m.tell(a, k, j, b));
                break;
            case 8: {
                int kind = num(1, 3), n = num(0, 4);
                same("drop(" + kind + ", " + n + ")", x.drop(kind, n), m.drop(kind, n));
                break;
            }
            case 9: {
                // half of what is SEEN is as it is, so that not all is refuted at once
                int v = random.nextBoolean() ? m.belief(k, b, a, 0) : random.nextInt(4) == 0 ? EyeRota.NONE : c;
                same("see(" + k + ", " + b + ", " + a + ", " + v + ")", x.see(k, b, a, v), m.see(k, b, a, v));
                break;
            }
            case 10: {
                int n = num(0, 6);
                same("forget(" + n + ")", x.forget(n), m.forget(n));
                break;
            }
            default: {
                int i = num(0, 1);
                if (random.nextInt(3) == 0) {
                    same("back(" + i + ")", x.back(i), m.back(i));
                    compareState();
                } else {
                    same("keep(" + i + ")", x.keep(i), m.keep(i));
                }
            }
        }
    }

    private void look(int which) {
        int h = num(0, 9), i = num(0, 2), k = who(), flag = num(0, 1), v = num(0, 10), row = num(0, 4);
        switch (which) {
            case 12: same("rule(" + row + ")", x.rule(row), m.rule(row)); break;
            case 13: same("rule(5)", x.rule(5), m.rule(5)); break;
            case 14: same("one(" + k + ", " + row + ")", x.one(k, row), m.one(k, row)); break;
            case 15: same("thing(" + i + ", " + h + ")", x.thing(i, h), m.thing(i, h)); break;
            case 16: same("rota(" + h + ")", x.rota(h), m.rota(h)); break;
            case 17: same("turn(" + row + ", " + i + ")", x.turn(row, i), m.turn(row, i)); break;
            case 18: case 19: {
                int what = num(0, 4);
                same("work(" + row + ", " + what + ")", x.work(row, what), m.work(row, what));
                same("telling(" + row + ", " + what + ")", x.telling(row, what), m.telling(row, what));
                break;
            }
            case 20: same("sees(" + h + ")", x.sees(h), m.sees(h)); break;
            case 21: case 22: case 23: {
                String call = "belief(" + k + ", " + i + ", " + h + ", " + flag + ")";
                same(call, x.belief(k, i, h, flag), m.belief(k, i, h, flag));
                break;
            }
            case 24: case 25:
                same("right(" + i + ", " + h + ", " + flag + ")", x.right(i, h, flag), m.right(i, h, flag));
                break;
            case 26: same("wrong(" + k + ", " + i + ")", x.wrong(k, i), m.wrong(k, i)); break;
            case 27: same("done(" + flag + ")", x.done(flag), m.done(flag)); break;
            case 28: same("swap(" + flag + ")", x.swap(flag), m.swap(flag)); break;
            case 29: same("give(" + flag + ")", x.give(flag), m.give(flag)); break;
            case 30: same("mend(" + i + ")", x.mend(i), m.mend(i)); break;
            case 31: case 32:
                same("luck(" + v + ", " + row + ", " + flag + ")", x.luck(v, row, flag), m.luck(v, row, flag));
                break;
            case 33: same("mean(" + v + ", " + flag + ")", x.mean(v, flag), m.mean(v, flag)); break;
            case 34: case 35: same("may(" + h + ")", x.may(h), m.may(h)); break;
            case 36: case 37: case 38: same("ask(" + h + ", " + flag + ")", x.ask(h, flag), m.ask(h, flag)); break;
            default: {
                int what = random.nextInt(4) == 0 ? 0 : num(9, 20);
                same("best(" + what + ")", x.best(what), m.best(what));
                for (int of = 10; of < 20; of++) {
                    same("best(" + of + ")", x.best(of), m.best(of));
                }
            }
        }
    }

    private void other(int which) {
        int k = num(0, 3), lane = num(0, 2);
        if (which < 42) {
            int seed = random.nextInt(), n = num(1, 60), what = num(0, 1);
            same("drift(" + seed + ", " + n + ", " + what + ")", x.drift(seed, n, what), m.drift(seed, n, what));
        } else if (which < 45) {
            int n = random.nextInt(20) == 0 ? ODD[random.nextInt(ODD.length)] : random.nextInt(41);
            same("sheet(" + k + ", " + lane + ", " + n + ")", x.sheet(k, lane, n), m.sheet(k, lane, n));
        } else if (which < 53) {
            int start = num(0, 12);
            for (int pair = 0; pair < 3; pair++) {
                layCell(k, start + 2 * pair, num(0, 9));
                layCell(k, start + 2 * pair + 1, whoOrNone());
            }
        } else if (which < 58) {
            int f = num(0, 12), n = random.nextInt(3) == 0 ? num(0, 20) : num(0, 3);
            if (random.nextInt(3) > 0 && k >= 0 && k < 4 && m.sheets[k] != null) {
                lane = m.sheets[k] instanceof byte[] ? 0 : m.sheets[k] instanceof short[] ? 1 : 2;
            }
            String call = "read(" + k + ", " + lane + ", " + f + ", " + n + ")";
            same(call, x.read(k, lane, f, n), m.read(k, lane, f, n));
            same("torn()", x.torn(), m.torn);
            compareState();
        } else {
            int c = num(0, 127), n = num(0, 3);
            same("feed(" + c + ")", x.feed(c), m.feed(c));
            same("end(" + n + ")", x.end(n), m.end(n));
            same("count(2)", x.count(2), m.count(2));
        }
    }

    private void layCell(int k, int i, int v) {
        same("lay(" + k + ", " + i + ", " + v + ")", x.lay(k, i, v), m.lay(k, i, v));
    }
}
