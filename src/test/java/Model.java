import java.math.BigInteger;
import java.util.ArrayList;
import java.util.Arrays;
import java.util.HashMap;
import java.util.HashSet;
import java.util.List;
import java.util.Map;
import java.util.Set;

/** The document told a second time, slowly and by other ways than EyeRota's, for ModelTest to compare. */
final class Model {
    static final int BAD = -1, STATE = -2, FULL = -3, NONE = -4;

    static final class Fault extends RuntimeException {
        private static final long serialVersionUID = 1L;
        final int kind;
        final int place;

        Fault(int kind, int place) {
            this.kind = kind;
            this.place = place;
        }
    }

    static final class World {
        List<int[]> kin = new ArrayList<>();
        List<int[]> turns = new ArrayList<>();
        List<int[]> works = new ArrayList<>();
        List<int[]> tellings = new ArrayList<>();
        Integer[] things = {0, 0, 0};
        int[] rota = new int[10];

        World() {
            Arrays.fill(rota, NONE);
        }

        World copy() {
            World w = new World();
            for (int[] r : kin) w.kin.add(r.clone());
            for (int[] r : turns) w.turns.add(r.clone());
            for (int[] r : works) w.works.add(r.clone());
            for (int[] r : tellings) w.tellings.add(r.clone());
            w.things = things.clone();
            w.rota = rota.clone();
            return w;
        }
    }

    World w = new World();
    World[] images = new World[2];
    Object[] sheets = new Object[4];
    List<int[]> seen = new ArrayList<>();
    StringBuilder tape = new StringBuilder();
    int fault, torn;

    // ---- text

    int feed(int c) {
        if (c < 0 || c > 127) return BAD;
        if (tape.length() == 160) return FULL;
        tape.append((char) c);
        return tape.length();
    }

    int end(int n) {
        if (n < 0 || n > tape.length()) return BAD;
        int had = tape.length();
        tape.setLength(n);
        return had;
    }

    int text() {
        String t = tape.toString();
        tape.setLength(0);
        try {
            Parser p = new Parser(t);
            p.parse();
            fault = 0;
            w = p.world;
            seen.clear();
            images = new World[2];
            return p.lines;
        } catch (Fault f) {
            fault = f.kind;
            return -10 - f.place;
        }
    }

    static final class Parser {
        final String t;
        int at;
        int place;
        String token;
        World world = new World();
        Set<Integer> told = new HashSet<>();
        boolean rotaTold;
        int lines;

        Parser(String t) {
            this.t = t;
        }

        void read() {
            while (at < t.length() && t.charAt(at) == ' ') at++;
            place = at;
            if (at == t.length()) {
                token = "";
                return;
            }
            int e = at;
            while (e < t.length() && ("" + t.charAt(e)).matches("[a-z]")) e++;
            if (e == at) {
                while (e < t.length() && ("" + t.charAt(e)).matches("[0-9]")) e++;
                if (e - at > 2) throw new Fault(1, place);
            }
            if (e == at && t.charAt(at) == ';') e++;
            if (e == at) throw new Fault(1, place);
            token = t.substring(at, e);
            at = e;
        }

        int num(int lo, int hi) {
            read();
            if (!token.matches("[0-9]+")) throw new Fault(2, place);
            int n = Integer.parseInt(token);
            if (n < lo || n > hi) throw new Fault(3, place);
            return n;
        }

        void stop() {
            read();
            if (!token.equals(";")) throw new Fault(2, place);
        }

        void room(List<int[]> rows, int most) {
            if (rows.size() == most) throw new Fault(5, place);
        }

        void parse() {
            for (read(); !token.isEmpty(); read()) {
                line();
                lines++;
            }
            int n = world.kin.size();
            boolean ok = true;
            for (int k : world.rota) ok &= k < n;
            for (int[] r : world.works) ok &= r[0] < n;
            for (int[] r : world.tellings) ok &= r[1] < n && r[2] < n;
            if (!ok) throw new Fault(6, t.length());
        }

        void line() {
            List<String> kinds = List.of("plain", "young", "old", "dreamer");
            if (kinds.contains(token)) {
                int kind = kinds.indexOf(token);
                room(world.kin, 5);
                int post = num(0, 2);
                stop();
                world.kin.add(new int[] {kind, post});
            } else if (token.equals("thing")) {
                int i = num(0, 2);
                if (!told.add(i)) throw new Fault(4, place);
                world.things[i] = num(0, 9);
                stop();
            } else if (token.equals("turn")) {
                room(world.turns, 4);
                world.turns.add(new int[] {num(0, 9), num(0, 2), num(0, 9)});
                stop();
            } else if (token.equals("rota")) {
                if (rotaTold) throw new Fault(4, place);
                rotaTold = true;
                int h = 0;
                for (read(); !token.equals(";"); read()) {
                    if (!token.matches("[0-9]+")) throw new Fault(2, place);
                    if (h == 10) throw new Fault(5, place);
                    int k = Integer.parseInt(token);
                    if (k > 5) throw new Fault(3, place);
                    world.rota[h++] = k == 5 ? NONE : k;
                }
            } else if (token.equals("work")) {
                room(world.works, 5);
                int k = num(0, 4);
                int from = num(0, 9);
                world.works.add(new int[] {k, from, num(from, 9), num(1, 9)});
                stop();
            } else if (token.equals("tell")) {
                room(world.tellings, 4);
                int h = num(0, 9);
                int k = num(0, 4);
                int j = num(0, 4);
                if (j == k) throw new Fault(3, place);
                world.tellings.add(new int[] {h, k, j, num(0, 2)});
                stop();
            } else {
                throw new Fault(2, place);
            }
        }
    }

    // ---- a day

    static boolean in(int v, int lo, int hi) {
        return v >= lo && v <= hi;
    }

    boolean one(int k) {
        return in(k, 0, w.kin.size() - 1);
    }

    static int keeps(int kind) {
        int plain = 3;
        int young = plain - 1;
        return List.of(plain, young, 3 * plain, young + 4).get(kind);
    }

    int seer(int[] rota, int h) {
        int k = rota[h];
        if (k == NONE) return NONE;
        int kind = w.kin.get(k)[0];
        boolean eyes = kind == 0 || kind == 2 || (kind == 1 && h <= 5) || (kind == 3 && h > 5);
        boolean reached = h == 0 || rota[h - 1] == NONE || rota[h - 1] == k
                || rota[h - 1] == k - 1 || rota[h - 1] == k + 1;
        return eyes && reached ? k : NONE;
    }

    /** Behind each HOUR: for each ONE and THING {VALUE, age}, or null; in the last row the THINGS. */
    List<int[][][]> days(int[] rota) {
        List<int[][][]> all = new ArrayList<>();
        int n = w.kin.size();
        int[][][] now = new int[n][3][];
        int[] value = {w.things[0], w.things[1], w.things[2]};
        for (int h = 0; h < 10; h++) {
            for (int k = 0; k < n; k++) {
                for (int i = 0; i < 3; i++) {
                    if (now[k][i] != null) {
                        now[k][i] = new int[] {now[k][i][0], now[k][i][1] + 1};
                        if (now[k][i][1] > keeps(w.kin.get(k)[0])) now[k][i] = null;
                    }
                }
            }
            for (int[] t : w.turns) if (t[0] == h) value[t[1]] = t[2];
            int s = seer(rota, h);
            if (s != NONE) {
                int post = w.kin.get(s)[1];
                now[s][post] = new int[] {value[post], 0};
            }
            for (int[] t : w.tellings) {
                if (t[0] == h && now[t[1]][t[3]] != null) now[t[2]][t[3]] = now[t[1]][t[3]].clone();
            }
            int[][][] shot = new int[n + 1][3][];
            for (int k = 0; k < n; k++) shot[k] = now[k].clone();
            for (int i = 0; i < 3; i++) shot[n][i] = new int[] {value[i]};
            all.add(shot);
        }
        return all;
    }

    boolean isDone(int[] rota, int i, int missedHours) {
        int[] work = w.works.get(i);
        for (int h = work[1]; h <= work[2]; h++) {
            if (seer(rota, h) == work[0] && (missedHours & 1 << h) == 0) return true;
        }
        return false;
    }

    int worth(int[] rota) {
        int sum = 0;
        for (int i = 0; i < w.works.size(); i++) if (isDone(rota, i, 0)) sum += w.works.get(i)[3];
        return sum;
    }

    // ---- what there is

    int rule(int what) {
        int held = 0, seenIn = 0;
        for (int h = 0; h < 10; h++) {
            if (w.rota[h] != NONE) held += 1 << h;
            if (seer(w.rota, h) != NONE) seenIn += 1 << h;
        }
        int[] all = {w.kin.size(), w.turns.size(), w.works.size(), w.tellings.size(), held, seenIn};
        return in(what, 0, 5) ? all[what] : BAD;
    }

    int one(int k, int what) {
        if (!one(k) || !in(what, 0, 4)) return BAD;
        int held = 0, seenIn = 0;
        for (int h = 0; h < 10; h++) {
            if (w.rota[h] == k) held += 1 << h;
            if (seer(w.rota, h) == k) seenIn += 1 << h;
        }
        int[] row = w.kin.get(k);
        return new int[] {row[0], row[1], keeps(row[0]), held, seenIn}[what];
    }

    int thing(int i, int hour) {
        if (!in(i, 0, 2) || (hour != NONE && !in(hour, 0, 9))) return BAD;
        return hour == NONE ? w.things[i] : days(w.rota).get(hour)[w.kin.size()][i][0];
    }

    int rota(int h) {
        return in(h, 0, 9) ? w.rota[h] : BAD;
    }

    static int cell(List<int[]> rows, int i, int what, int width) {
        return in(i, 0, rows.size() - 1) && in(what, 0, width - 1) ? rows.get(i)[what] : BAD;
    }

    int turn(int i, int what) {
        return cell(w.turns, i, what, 3);
    }

    int work(int i, int what) {
        if (what == 4 && in(i, 0, w.works.size() - 1)) return isDone(w.rota, i, 0) ? 1 : 0;
        return cell(w.works, i, what, 4);
    }

    int telling(int i, int what) {
        return cell(w.tellings, i, what, 4);
    }

    // ---- what is changed

    int alter(int k, int what, int v) {
        if (!one(k) || !in(what, 0, 1) || !in(v, 0, what == 0 ? 3 : 2)) return BAD;
        int was = w.kin.get(k)[what];
        w.kin.get(k)[what] = v;
        return was;
    }

    int paint(int i, int v) {
        if (!in(i, 0, 2) || !in(v, 0, 9)) return BAD;
        int was = w.things[i];
        w.things[i] = v;
        return was;
    }

    int shift(int h, int k) {
        if (!in(h, 0, 9) || (k != NONE && !one(k))) return BAD;
        int was = w.rota[h];
        w.rota[h] = k;
        return was;
    }

    static int more(List<int[]> rows, int most, int... row) {
        if (rows.size() == most) return FULL;
        rows.add(row);
        return rows.size();
    }

    int assign(int k, int from, int to, int worth) {
        if (!one(k) || !in(from, 0, 9) || !in(to, from, 9) || !in(worth, 1, 9)) return BAD;
        return more(w.works, 5, k, from, to, worth);
    }

    int change(int h, int i, int v) {
        if (!in(h, 0, 9) || !in(i, 0, 2) || !in(v, 0, 9)) return BAD;
        return more(w.turns, 4, h, i, v);
    }

    int tell(int h, int k, int j, int i) {
        if (!in(h, 0, 9) || !one(k) || !one(j) || j == k || !in(i, 0, 2)) return BAD;
        return more(w.tellings, 4, h, k, j, i);
    }

    static int cut(List<int[]> rows, int n) {
        int had = rows.size();
        if (!in(n, 0, had)) return BAD;
        while (rows.size() > n) rows.remove(rows.size() - 1);
        return had;
    }

    int drop(int kind, int n) {
        if (!in(kind, 1, 3)) return BAD;
        return cut(kind == 1 ? w.turns : kind == 2 ? w.works : w.tellings, n);
    }

    // ---- what is seen, believed, done

    int sees(int h) {
        return in(h, 0, 9) ? seer(w.rota, h) : BAD;
    }

    int belief(int k, int i, int h, int what) {
        if (!one(k) || !in(i, 0, 2) || !in(h, 0, 9) || !in(what, 0, 1)) return BAD;
        int[] b = days(w.rota).get(h)[k][i];
        return b == null ? NONE : b[what];
    }

    int right(int i, int h, int what) {
        if (!in(i, 0, 2) || !in(h, 0, 9) || !in(what, 0, 1)) return BAD;
        int[][][] day = days(w.rota).get(h);
        int n = w.kin.size(), rights = 0, wrongs = 0;
        for (int k = 0; k < n; k++) {
            if (day[k][i] != null && day[k][i][0] == day[n][i][0]) rights += 1 << k;
            if (day[k][i] != null && day[k][i][0] != day[n][i][0]) wrongs += 1 << k;
        }
        return what == 0 ? rights : wrongs;
    }

    int wrong(int k, int i) {
        if (!one(k) || !in(i, 0, 2)) return BAD;
        for (int h = 0; h < 10; h++) if ((right(i, h, 1) >> k) % 2 == 1) return h;
        return NONE;
    }

    int done(int what) {
        if (!in(what, 0, 1)) return BAD;
        int bits = 0;
        for (int i = 0; i < w.works.size(); i++) bits += isDone(w.rota, i, 0) ? 1 << i : 0;
        return what == 0 ? bits : worth(w.rota);
    }

    // ---- what is best

    /** Of all rotas that go on from here the best: its worth, then its ONES (nobody 5), as text that can be compared. */
    private String bestFrom(int[] rota, int h, int doneBits, Map<String, String> known) {
        if (h == 10) {
            int sum = 0;
            for (int i = 0; i < w.works.size(); i++) if ((doneBits & 1 << i) != 0) sum += w.works.get(i)[3];
            return (char) ('a' + 50 - sum) + "";
        }
        String key = h + " " + (h == 0 ? 5 : rota[h - 1]) + " " + doneBits;
        if (known.containsKey(key)) return known.get(key);
        String top = null;
        for (int k = 0; k <= w.kin.size(); k++) {
            rota[h] = k == w.kin.size() ? NONE : k;
            int bits = doneBits;
            for (int i = 0; i < w.works.size(); i++) {
                int[] work = w.works.get(i);
                if (in(h, work[1], work[2]) && seer(rota, h) == work[0]) bits |= 1 << i;
            }
            String rest = bestFrom(rota, h + 1, bits, known);
            String whole = rest.charAt(0) + "" + (rota[h] == NONE ? 5 : k) + rest.substring(1);
            if (top == null || whole.compareTo(top) < 0) top = whole;
        }
        known.put(key, top);
        return top;
    }

    int best(int what) {
        if (what != 0 && !in(what, 10, 19)) return BAD;
        String top = bestFrom(new int[10], 0, 0, new HashMap<>());
        if (what == 0) return 'a' + 50 - top.charAt(0);
        int k = top.charAt(1 + what - 10) - '0';
        return k == 5 ? NONE : k;
    }

    int swap(int what) {
        if (!in(what, 0, 1)) return BAD;
        int most = worth(w.rota), which = NONE;
        for (int code = 0; code < 100; code++) {
            int a = code / 10, b = code % 10;
            int[] r = w.rota.clone();
            r[a] = w.rota[b];
            r[b] = w.rota[a];
            if (a < b && worth(r) > most) {
                most = worth(r);
                which = code;
            }
        }
        return which == NONE ? NONE : what == 0 ? which : most;
    }

    int give(int what) {
        if (!in(what, 0, 1)) return BAD;
        int most = worth(w.rota), which = NONE;
        for (int code = 0; code < 100; code++) {
            if (!one(code % 10)) continue;
            int[] r = w.rota.clone();
            r[code / 10] = code % 10;
            if (worth(r) > most) {
                most = worth(r);
                which = code;
            }
        }
        return which == NONE ? NONE : what == 0 ? which : most;
    }

    /** Tries all tellings, one more each time, until all are RIGHT or nothing new comes. */
    int mend(int i) {
        if (!in(i, 0, 2)) return BAD;
        int n = w.kin.size();
        int[][][] last = days(w.rota).get(9);
        StringBuilder first = new StringBuilder();
        for (int k = 0; k < n; k++) first.append(last[k][i] == null ? "-" : "" + last[k][i][0]);
        String aim = ("" + last[n][i][0]).repeat(n);
        Set<String> known = new HashSet<>(Set.of(first.toString()));
        Set<String> front = known;
        for (int tellings = 0; !front.isEmpty(); tellings++) {
            if (front.contains(aim)) return tellings;
            Set<String> then = new HashSet<>();
            for (String s : front) {
                for (int k = 0; k < n; k++) {
                    for (int j = 0; j < n; j++) {
                        if (s.charAt(k) == '-') continue;
                        StringBuilder b = new StringBuilder(s);
                        b.setCharAt(j, s.charAt(k));
                        if (known.add(b.toString())) then.add(b.toString());
                    }
                }
            }
            front = then;
        }
        return NONE;
    }

    // ---- hand-overs that are missed

    /** Sums over all ways in which hand-overs are missed; for one piece of WORK (counted once), or all by WORTH (-1). */
    private long odds(int v, int piece, int what) {
        List<Integer> starts = new ArrayList<>();
        for (int h = 0; h < 10; h++) {
            if (w.rota[h] != NONE && (h == 0 || w.rota[h - 1] != w.rota[h])) starts.add(h);
        }
        BigInteger sum = BigInteger.ZERO;
        for (int way = 0; way < 1 << starts.size(); way++) {
            long weight = 1;
            int missedHours = 0;
            for (int s = 0; s < starts.size(); s++) {
                boolean missed = (way & 1 << s) != 0;
                weight *= missed ? v : 10 - v;
                for (int h = starts.get(s); missed && h < 10 && w.rota[h] == w.rota[starts.get(s)]; h++) {
                    missedHours |= 1 << h;
                }
            }
            for (int i = 0; i < w.works.size(); i++) {
                if ((piece == -1 || piece == i) && isDone(w.rota, i, missedHours)) {
                    long each = piece == -1 ? w.works.get(i)[3] : 1;
                    sum = sum.add(BigInteger.valueOf(weight * each));
                }
            }
        }
        BigInteger all = BigInteger.TEN.pow(starts.size());
        return (what == 0 ? sum : all).divide(sum.gcd(all)).longValue();
    }

    long luck(int v, int i, int what) {
        return in(v, 0, 10) && in(i, 0, w.works.size() - 1) && in(what, 0, 1) ? odds(v, i, what) : BAD;
    }

    long mean(int v, int what) {
        return in(v, 0, 10) && in(what, 0, 1) ? odds(v, -1, what) : BAD;
    }

    // ---- who had it

    int see(int k, int i, int h, int v) {
        if (!one(k) || !in(i, 0, 2) || !in(h, 0, 9) || (v != NONE && !in(v, 0, 9))) return BAD;
        return more(seen, 6, k, i, h, v);
    }

    int forget(int n) {
        return cut(seen, n);
    }

    /** The rotas that may have been, by who has the eye in the HOUR, nobody last. */
    private List<Integer> possible(int hour) {
        List<Integer> who = new ArrayList<>();
        for (int k = 0; k <= w.kin.size(); k++) {
            int[] r = w.rota.clone();
            r[hour] = k == w.kin.size() ? NONE : k;
            boolean ok = true;
            for (int[] s : seen) {
                int[] b = days(r).get(s[2])[s[0]][s[1]];
                ok &= b == null ? s[3] == NONE : s[3] == b[0];
            }
            if (ok) who.add(r[hour]);
        }
        return who;
    }

    int may(int hour) {
        if (!in(hour, 0, 9)) return BAD;
        int bits = 0;
        for (int k : possible(hour)) bits += k == NONE ? 32 : 1 << k;
        return bits;
    }

    int ask(int hour, int what) {
        if (!in(hour, 0, 9) || !in(what, 0, 1)) return BAD;
        List<Integer> who = possible(hour);
        int fewest = who.size(), which = NONE;
        for (int k = 0; k < w.kin.size(); k++) {
            for (int i = 0; i < 3; i++) {
                Map<Integer, Integer> groups = new HashMap<>();
                for (int c : who) {
                    int[] r = w.rota.clone();
                    r[hour] = c;
                    int[] b = days(r).get(9)[k][i];
                    groups.merge(b == null ? NONE : b[0], 1, Integer::sum);
                }
                int worst = groups.values().stream().mapToInt(Integer::intValue).max().orElse(0);
                if (worst < fewest) {
                    fewest = worst;
                    which = 10 * k + i;
                }
            }
        }
        return which == NONE ? NONE : what == 0 ? which : fewest;
    }

    // ---- by a seed

    int drift(int seed, int n, int what) {
        if (!in(n, 1, 60) || !in(what, 0, 1)) return BAD;
        if (w.kin.isEmpty()) return STATE;
        BigInteger s = BigInteger.valueOf(seed);
        int[] r = w.rota.clone();
        int sum = 0;
        for (int t = 0; t < n; t++) {
            s = s.multiply(BigInteger.valueOf(1103515245)).add(BigInteger.valueOf(12345));
            int h = s.shiftRight(16).mod(BigInteger.valueOf(32768)).intValue() % 10;
            s = s.multiply(BigInteger.valueOf(1103515245)).add(BigInteger.valueOf(12345));
            int k = s.shiftRight(16).mod(BigInteger.valueOf(32768)).intValue() % (w.kin.size() + 1);
            r[h] = k == w.kin.size() ? NONE : k;
            sum += worth(r);
        }
        int bits = 0;
        for (int h = 0; h < 10; h++) bits += seer(r, h) != NONE ? 1 << h : 0;
        return what == 0 ? sum : bits;
    }

    // ---- images, sheets

    int keep(int k) {
        if (!in(k, 0, 1)) return BAD;
        int was = images[k] == null ? 0 : 1;
        images[k] = w.copy();
        return was;
    }

    int back(int k) {
        if (!in(k, 0, 1)) return BAD;
        if (images[k] == null) return STATE;
        w = images[k].copy();
        return w.kin.size();
    }

    int sheet(int k, int lane, int n) {
        if (!in(k, 0, 3) || !in(lane, 0, 2) || n > 40) return BAD;
        try {
            sheets[k] = lane == 0 ? new byte[n] : lane == 1 ? new short[n] : (Object) new int[n];
            return 1;
        } catch (NegativeArraySizeException e) {
            return -14;
        }
    }

    int lay(int k, int i, int v) {
        if (!in(k, 0, 3)) return BAD;
        try {
            if (sheets[k] instanceof byte[]) ((byte[]) sheets[k])[i] = (byte) v;
            else if (sheets[k] instanceof short[]) ((short[]) sheets[k])[i] = (short) v;
            else ((int[]) sheets[k])[i] = v;
            return 1;
        } catch (NullPointerException e) {
            return -11;
        } catch (IndexOutOfBoundsException e) {
            return -12;
        }
    }

    /** Here the machine itself finds the faults. */
    int read(int k, int lane, int f, int n) {
        if (!in(k, 0, 3) || !in(lane, 0, 2) || !in(n, 0, 20)) return BAD;
        World before = w.copy();
        int came = 0, found = 0;
        try {
            for (; came < n; came++) {
                int[] pair = new int[2];
                for (int c = 0; c < 2; c++) {
                    int at = f + 2 * came + c;
                    if (lane == 0) pair[c] = ((byte[]) sheets[k])[at];
                    else if (lane == 1) pair[c] = ((short[]) sheets[k])[at];
                    else pair[c] = ((int[]) sheets[k])[at];
                }
                if (shift(pair[0], pair[1]) == BAD) {
                    w = before;
                    return -20 - came;
                }
            }
        } catch (NullPointerException e) {
            found = 1;
        } catch (IndexOutOfBoundsException e) {
            found = 2;
        } catch (ClassCastException e) {
            found = 3;
        }
        torn = found;
        return came;
    }

    int count(int what) {
        switch (what) {
            case 0:
                return seen.size();
            case 1:
                return (images[0] == null ? 0 : 1) + (images[1] == null ? 0 : 1);
            case 2:
                return tape.length();
            case 3:
                return sheets[0] == null ? NONE : java.lang.reflect.Array.getLength(sheets[0]);
            case 4:
                return w.works.stream().mapToInt(r -> r[3]).sum();
            case 5:
                int dark = 0;
                for (int h = 0; h < 10; h++) dark += w.rota[h] != NONE && seer(w.rota, h) == NONE ? 1 : 0;
                return dark;
            default:
                return BAD;
        }
    }
}
