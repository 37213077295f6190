/** One eye among kin, handed on by a rota; ../shared/DOC.md numbers what each call promises. */
public final class EyeRota {
    public static final int BAD = -1, STATE = -2, FULL = -3, NONE = -4;

    private static final int HOURS = 10;
    private static final int THINGS = 3;
    private static final int KIN_LIMIT = 5;
    private static final int TURN_LIMIT = 4;
    private static final int WORK_LIMIT = 5;
    private static final int TELLING_LIMIT = 4;
    private static final int SEEN_LIMIT = 6;
    private static final int IMAGES = 2;
    private static final int SHEETS = 4;
    private static final int LANES = 3;
    private static final int CELL_LIMIT = 40;
    private static final int READ_LIMIT = 20;
    private static final int TAPE_LIMIT = 160;
    private static final int DRIFT_LIMIT = 60;
    private static final int TOP_VALUE = 9;
    private static final int TOP_WORTH = 9;
    private static final int TEN = 10;

    private static final int PLAIN = 0;
    private static final int YOUNG = 1;
    private static final int OLD = 2;
    private static final int DREAMER = 3;
    private static final int[] KEEPS = {3, 2, 9, 6};
    private static final int EVENING = 6;

    private static final int FAULT_NULL = 1;
    private static final int FAULT_INDEX = 2;
    private static final int FAULT_CAST = 3;
    private static final int FAULT_SIZE = 4;

    private final Family family = new Family();
    private final Family[] images = new Family[IMAGES];
    private final boolean[] imageStands = new boolean[IMAGES];
    private final Rows seen = new Rows(4, SEEN_LIMIT);
    private final Rows tape = new Rows(1, TAPE_LIMIT);
    private final Reader reader = new Reader(tape);
    private final Page[] pages = new Page[SHEETS];
    private final Sight sight = new Sight();
    private final Day day = new Day();
    private final Planner planner = new Planner();
    private final int[] trial = new int[HOURS];
    private final int[] answers = new int[(KIN_LIMIT + 1) * KIN_LIMIT * THINGS];
    private int textFault;
    private int readFault;

    public EyeRota() {
        for (int k = 0; k < IMAGES; k++) {
            images[k] = new Family();
        }
        for (int k = 0; k < SHEETS; k++) {
            pages[k] = new Page();
        }
    }

    // ---- the text, what there is

    public int feed(int c) {
        if (c < 0 || c > 127) {
            return BAD;
        }
        return tape.add(c, 0, 0, 0);
    }

    public int end(int n) {
        return tape.cutTo(n);
    }

    public int text() {
        reader.readTape();
        tape.cutTo(0);
        textFault = reader.faultMet;
        if (textFault != 0) {
            return -10 - reader.faultPlace;
        }
        family.copyFrom(reader.draft);
        seen.cutTo(0);
        for (int k = 0; k < IMAGES; k++) {
            imageStands[k] = false;
        }
        return reader.lines;
    }

    public int fault() {
        return textFault;
    }

    public int rule(int what) {
        switch (what) {
            case 0:
                return family.kin.size;
            case 1:
                return family.turns.size;
            case 2:
                return family.works.size;
            case 3:
                return family.tellings.size;
            case 4:
                return family.hoursHeld();
            case 5:
                sight.look(family, family.holders);
                return sight.hoursSeen();
            default:
                return BAD;
        }
    }

    public int one(int k, int what) {
        if (!family.isOne(k)) {
            return BAD;
        }
        switch (what) {
            case 0:
                return family.kindOf(k);
            case 1:
                return family.postOf(k);
            case 2:
                return family.keepsOf(k);
            case 3:
                return family.hoursHeldBy(k);
            case 4:
                sight.look(family, family.holders);
                return sight.hoursOf(k);
            default:
                return BAD;
        }
    }

    public int thing(int i, int hour) {
        if (!isThing(i) || (hour != NONE && !isHour(hour))) {
            return BAD;
        }
        return family.valueBehind(i, hour);
    }

    public int rota(int hour) {
        return isHour(hour) ? family.holders[hour] : BAD;
    }

    public int turn(int i, int what) {
        return family.turns.at(i, what);
    }

    public int work(int i, int what) {
        if (what != 4) {
            return family.works.at(i, what);
        }
        if (!family.works.has(i)) {
            return BAD;
        }
        sight.look(family, family.holders);
        return sight.isDone(family, i) ? 1 : 0;
    }

    public int telling(int i, int what) {
        return family.tellings.at(i, what);
    }

    // ---- what is changed

    public int alter(int k, int what, int v) {
        if (!family.isOne(k) || !isFlag(what) || v < 0 || v > (what == 0 ? DREAMER : THINGS - 1)) {
            return BAD;
        }
        int before = family.kin.at(k, what);
        family.kin.put(k, what, v);
        return before;
    }

    public int paint(int i, int v) {
        if (!isThing(i) || !isValue(v)) {
            return BAD;
        }
        int before = family.firstValues[i];
        family.firstValues[i] = v;
        return before;
    }

    public int shift(int hour, int k) {
        if (!isShift(hour, k)) {
            return BAD;
        }
        int before = family.holders[hour];
        family.holders[hour] = k;
        return before;
    }

    public int assign(int k, int from, int to, int worth) {
        if (!family.isOne(k) || !isHour(from) || !isHour(to) || to < from || worth < 1 || worth > TOP_WORTH) {
            return BAD;
        }
        return family.works.add(k, from, to, worth);
    }

    public int change(int hour, int i, int v) {
        if (!isHour(hour) || !isThing(i) || !isValue(v)) {
            return BAD;
        }
        return family.turns.add(hour, i, v, 0);
    }

    public int tell(int hour, int k, int j, int i) {
        if (!isHour(hour) || !family.isOne(k) || !family.isOne(j) || k == j || !isThing(i)) {
            return BAD;
        }
        return family.tellings.add(hour, k, j, i);
    }

    public int drop(int kind, int n) {
        switch (kind) {
            case 1:
                return family.turns.cutTo(n);
            case 2:
                return family.works.cutTo(n);
            case 3:
                return family.tellings.cutTo(n);
            default:
                return BAD;
        }
    }

    // ---- what is seen, believed, done

    public int sees(int hour) {
        return isHour(hour) ? Sight.seerIn(family, family.holders, hour) : BAD;
    }

    public int belief(int k, int i, int hour, int what) {
        if (!family.isOne(k) || !isThing(i) || !isHour(hour) || !isFlag(what)) {
            return BAD;
        }
        day.live(family, family.holders);
        return what == 0 ? day.valueOf(k, i, hour) : day.ageOf(k, i, hour);
    }

    public int right(int i, int hour, int what) {
        if (!isThing(i) || !isHour(hour) || !isFlag(what)) {
            return BAD;
        }
        day.live(family, family.holders);
        return what == 0 ? day.rightOnes(family, i, hour) : day.wrongOnes(family, i, hour);
    }

    public int wrong(int k, int i) {
        if (!family.isOne(k) || !isThing(i)) {
            return BAD;
        }
        day.live(family, family.holders);
        for (int hour = 0; hour < HOURS; hour++) {
            if ((day.wrongOnes(family, i, hour) & (1 << k)) != 0) {
                return hour;
            }
        }
        return NONE;
    }

    public int done(int what) {
        if (!isFlag(what)) {
            return BAD;
        }
        sight.look(family, family.holders);
        return what == 0 ? sight.donePieces(family) : sight.doneWorth(family);
    }

    // ---- what is best

    public int best(int what) {
        if (what != 0 && (what < TEN || what >= TEN + HOURS)) {
            return BAD;
        }
        planner.planFor(family);
        return what == 0 ? planner.planWorth : planner.plan[what - TEN];
    }

    public int swap(int what) {
        if (!isFlag(what)) {
            return BAD;
        }
        int most = worthBy(family.holders);
        int hours = NONE;
        for (int a = 0; a < HOURS; a++) {
            for (int b = a + 1; b < HOURS; b++) {
                int worth = worthSwapped(a, b);
                if (worth > most) {
                    most = worth;
                    hours = TEN * a + b;
                }
            }
        }
        return hours == NONE || what == 0 ? hours : most;
    }

    public int give(int what) {
        if (!isFlag(what)) {
            return BAD;
        }
        int most = worthBy(family.holders);
        int gift = NONE;
        for (int hour = 0; hour < HOURS; hour++) {
            for (int k = 0; k < family.kin.size; k++) {
                int worth = worthGiven(hour, k);
                if (worth > most) {
                    most = worth;
                    gift = TEN * hour + k;
                }
            }
        }
        return gift == NONE || what == 0 ? gift : most;
    }

    public int mend(int i) {
        if (!isThing(i)) {
            return BAD;
        }
        day.live(family, family.holders);
        int right = Integer.bitCount(day.rightOnes(family, i, HOURS - 1));
        // One who is RIGHT can tell all others, one telling each; without such a one no telling helps.
        return right == 0 && family.kin.size > 0 ? NONE : family.kin.size - right;
    }

    // ---- hand-overs that are missed

    public long luck(int v, int i, int what) {
        if (v < 0 || v > TEN || !family.works.has(i) || !isFlag(what)) {
            return BAD;
        }
        sight.look(family, family.holders);
        return Odds.part(Odds.shareMet(v, sight.chancesOf(family, i)), what);
    }

    public long mean(int v, int what) {
        if (v < 0 || v > TEN || !isFlag(what)) {
            return BAD;
        }
        sight.look(family, family.holders);
        long sum = 0;
        for (int i = 0; i < family.works.size; i++) {
            sum += family.worthOf(i) * Odds.shareMet(v, sight.chancesOf(family, i));
        }
        return Odds.part(sum, what);
    }

    // ---- who had it

    public int see(int k, int i, int hour, int v) {
        if (!family.isOne(k) || !isThing(i) || !isHour(hour) || (v != NONE && !isValue(v))) {
            return BAD;
        }
        return seen.add(k, i, hour, v);
    }

    public int forget(int n) {
        return seen.cutTo(n);
    }

    public int may(int hour) {
        return isHour(hour) ? possibleHolders(hour) : BAD;
    }

    public int ask(int hour, int what) {
        if (!isHour(hour) || !isFlag(what)) {
            return BAD;
        }
        int holders = possibleHolders(hour);
        int fewest = Integer.bitCount(holders);
        int question = NONE;
        for (int k = 0; k < family.kin.size; k++) {
            for (int i = 0; i < THINGS; i++) {
                int left = leftAtWorst(holders, k, i);
                if (left < fewest) {
                    fewest = left;
                    question = TEN * k + i;
                }
            }
        }
        return question == NONE || what == 0 ? question : fewest;
    }

    // ---- by a seed

    public int drift(int seed, int n, int what) {
        if (n < 1 || n > DRIFT_LIMIT || !isFlag(what)) {
            return BAD;
        }
        int people = family.kin.size;
        if (people < 1) {
            return STATE;
        }
        takeTrial();
        int sum = 0;
        int state = seed;
        for (int step = 0; step < n; step++) {
            state = nextSeed(state);
            int hour = drawn(state) % HOURS;
            state = nextSeed(state);
            int who = drawn(state) % (people + 1);
            trial[hour] = who == people ? NONE : who;
            sum += worthBy(trial);
        }
        return what == 0 ? sum : sight.hoursSeen();
    }

    // ---- images, sheets

    public int keep(int k) {
        if (k < 0 || k >= IMAGES) {
            return BAD;
        }
        int before = imageStands[k] ? 1 : 0;
        images[k].copyFrom(family);
        imageStands[k] = true;
        return before;
    }

    public int back(int k) {
        if (k < 0 || k >= IMAGES) {
            return BAD;
        }
        if (!imageStands[k]) {
            return STATE;
        }
        family.copyFrom(images[k]);
        return family.kin.size;
    }

    public int sheet(int k, int lane, int n) {
        if (!isSheet(k) || !isLane(lane) || n > CELL_LIMIT) {
            return BAD;
        }
        if (n < 0) {
            return -10 - FAULT_SIZE;
        }
        pages[k].makeNew(lane, n);
        return 1;
    }

    public int lay(int k, int i, int v) {
        if (!isSheet(k)) {
            return BAD;
        }
        Page page = pages[k];
        int fault = page.faultAt(i);
        if (fault != 0) {
            return -10 - fault;
        }
        page.putCell(i, v);
        return 1;
    }

    public int read(int k, int lane, int f, int n) {
        if (!isSheet(k) || !isLane(lane) || n < 0 || n > READ_LIMIT) {
            return BAD;
        }
        Page page = pages[k];
        takeTrial();
        int came = 0;
        int fault = 0;
        while (came < n && fault == 0) {
            int cell = f + 2 * came;
            fault = page.faultOfPair(lane, cell);
            if (fault == 0) {
                int hour = page.cellAt(cell);
                int who = page.cellAt(cell + 1);
                if (!isShift(hour, who)) {
                    return -20 - came;
                }
                trial[hour] = who;
                came++;
            }
        }
        System.arraycopy(trial, 0, family.holders, 0, HOURS);
        readFault = fault;
        return came;
    }

    public int torn() {
        return readFault;
    }

    public int count(int what) {
        switch (what) {
            case 0:
                return seen.size;
            case 1:
                return (imageStands[0] ? 1 : 0) + (imageStands[1] ? 1 : 0);
            case 2:
                return tape.size;
            case 3:
                return pages[0].length;
            case 4:
                return family.allWorth();
            case 5:
                sight.look(family, family.holders);
                return Integer.bitCount(family.hoursHeld() & ~sight.hoursSeen());
            default:
                return BAD;
        }
    }

    // ---- what the calls above share

    private static boolean isHour(int hour) {
        return hour >= 0 && hour < HOURS;
    }

    private static boolean isThing(int i) {
        return i >= 0 && i < THINGS;
    }

    private static boolean isValue(int v) {
        return v >= 0 && v <= TOP_VALUE;
    }

    private static boolean isFlag(int what) {
        return what == 0 || what == 1;
    }

    private static boolean isSheet(int k) {
        return k >= 0 && k < SHEETS;
    }

    private static boolean isLane(int lane) {
        return lane >= 0 && lane < LANES;
    }

    private boolean isShift(int hour, int k) {
        return isHour(hour) && (k == NONE || family.isOne(k));
    }

    private void takeTrial() {
        System.arraycopy(family.holders, 0, trial, 0, HOURS);
    }

    private int worthBy(int[] holders) {
        sight.look(family, holders);
        return sight.doneWorth(family);
    }

    private int worthSwapped(int a, int b) {
        takeTrial();
        trial[a] = family.holders[b];
        trial[b] = family.holders[a];
        return worthBy(trial);
    }

    private int worthGiven(int hour, int k) {
        takeTrial();
        trial[hour] = k;
        return worthBy(trial);
    }

    private static int nextSeed(int seed) {
        return seed * 1103515245 + 12345;
    }

    private static int drawn(int seed) {
        return (seed >>> 16) & 32767;
    }

    /** Bits of those with whom in the HOUR all is as SEEN; what each then believes at last stays in answers. */
    private int possibleHolders(int hour) {
        takeTrial();
        int bits = 0;
        for (int slot = 0; slot <= KIN_LIMIT; slot++) {
            boolean isNobody = slot == KIN_LIMIT;
            if (isNobody || family.isOne(slot)) {
                trial[hour] = isNobody ? NONE : slot;
                day.live(family, trial);
                day.copyLast(answers, slot * KIN_LIMIT * THINGS);
                bits |= day.isAsSeen(seen) ? 1 << slot : 0;
            }
        }
        return bits;
    }

    private int leftAtWorst(int holders, int k, int i) {
        int worst = 0;
        for (int a = 0; a <= KIN_LIMIT; a++) {
            int alike = 0;
            for (int b = 0; b <= KIN_LIMIT; b++) {
                boolean bothMay = (holders & (1 << a)) != 0 && (holders & (1 << b)) != 0;
                if (bothMay && answerBy(a, k, i) == answerBy(b, k, i)) {
                    alike++;
                }
            }
            worst = Math.max(worst, alike);
        }
        return worst;
    }

    private int answerBy(int slot, int k, int i) {
        return answers[(slot * KIN_LIMIT + k) * THINGS + i];
    }

    /** Rows of numbers up to a limit; made once, so that no call has to make anything. A row ends with its width. */
    private static final class Rows {
        final int width;
        final int limit;
        final int[] cells;
        int size;

        Rows(int width, int limit) {
            this.width = Math.max(0, width);
            this.limit = Math.max(0, limit);
            this.cells = new int[this.width * this.limit];
        }

        boolean has(int row) {
            return row >= 0 && row < size;
        }

        int at(int row, int column) {
            boolean isThere = row >= 0 && row < size && column >= 0 && column < width;
            return isThere ? cells[row * width + column] : BAD;
        }

        void put(int row, int column, int v) {
            if (has(row) && column >= 0 && column < width) {
                cells[row * width + column] = v;
            }
        }

        int add(int a, int b, int c, int d) {
            if (size >= limit) {
                return FULL;
            }
            size++;
            put(size - 1, 0, a);
            put(size - 1, 1, b);
            put(size - 1, 2, c);
            put(size - 1, 3, d);
            return size;
        }

        int cutTo(int n) {
            if (n < 0 || n > size) {
                return BAD;
            }
            int before = size;
            size = n;
            return before;
        }

        void copyFrom(Rows other) {
            System.arraycopy(other.cells, 0, cells, 0, Math.min(cells.length, other.cells.length));
            size = Math.min(limit, other.size);
        }

        boolean isLike(Rows other) {
            if (size != other.size || width != other.width) {
                return false;
            }
            for (int i = 0; i < size * width; i++) {
                if (cells[i] != other.cells[i]) {
                    return false;
                }
            }
            return true;
        }
    }

    /** All that a text tells and an IMAGE keeps. */
    private static final class Family {
        final Rows kin = new Rows(2, KIN_LIMIT);
        final Rows turns = new Rows(3, TURN_LIMIT);
        final Rows works = new Rows(4, WORK_LIMIT);
        final Rows tellings = new Rows(4, TELLING_LIMIT);
        final int[] firstValues = new int[THINGS];
        final int[] holders = new int[HOURS];

        Family() {
            makeEmpty();
        }

        void makeEmpty() {
            kin.size = 0;
            turns.size = 0;
            works.size = 0;
            tellings.size = 0;
            for (int i = 0; i < THINGS; i++) {
                firstValues[i] = 0;
            }
            for (int hour = 0; hour < HOURS; hour++) {
                holders[hour] = NONE;
            }
        }

        void copyFrom(Family other) {
            kin.copyFrom(other.kin);
            turns.copyFrom(other.turns);
            works.copyFrom(other.works);
            tellings.copyFrom(other.tellings);
            System.arraycopy(other.firstValues, 0, firstValues, 0, THINGS);
            System.arraycopy(other.holders, 0, holders, 0, HOURS);
        }

        boolean isOne(int k) {
            return kin.has(k);
        }

        int kindOf(int k) {
            return kin.at(k, 0);
        }

        int postOf(int k) {
            return kin.at(k, 1);
        }

        int keepsOf(int k) {
            int kind = kindOf(k);
            return kind >= 0 && kind < KEEPS.length ? KEEPS[kind] : 0;
        }

        int worthOf(int i) {
            return works.at(i, 3);
        }

        int allWorth() {
            int sum = 0;
            for (int i = 0; i < works.size; i++) {
                sum += worthOf(i);
            }
            return sum;
        }

        int hoursHeld() {
            int bits = 0;
            for (int hour = 0; hour < HOURS; hour++) {
                bits |= holders[hour] != NONE ? 1 << hour : 0;
            }
            return bits;
        }

        int hoursHeldBy(int k) {
            int bits = 0;
            for (int hour = 0; hour < HOURS; hour++) {
                bits |= holders[hour] == k ? 1 << hour : 0;
            }
            return bits;
        }

        /** The VALUE behind an HOUR's TURNS; no TURN comes at or ahead of NONE, which is below all HOURS. */
        int valueBehind(int i, int hour) {
            int value = i >= 0 && i < THINGS ? firstValues[i] : BAD;
            int latest = 0;
            for (int t = 0; t < turns.size; t++) {
                int turnHour = turns.at(t, 0);
                if (turns.at(t, 1) == i && turnHour <= hour && turnHour >= latest) {
                    latest = turnHour;
                    value = turns.at(t, 2);
                }
            }
            return value;
        }

        /** Whether rota, WORK and TELLINGS name none but those who are there. */
        boolean namesOnlyKin() {
            for (int hour = 0; hour < HOURS; hour++) {
                if (holders[hour] != NONE && !isOne(holders[hour])) {
                    return false;
                }
            }
            for (int i = 0; i < works.size; i++) {
                if (!isOne(works.at(i, 0))) {
                    return false;
                }
            }
            for (int i = 0; i < tellings.size; i++) {
                if (!isOne(tellings.at(i, 1)) || !isOne(tellings.at(i, 2))) {
                    return false;
                }
            }
            return true;
        }
    }

    /** Who SEES in which HOURS by a rota, and what WORK is DONE by it. */
    private static final class Sight {
        final int[] handed = new int[HOURS];
        final int[] seers = new int[HOURS];
        final int[] hoursByOne = new int[KIN_LIMIT];

        static boolean hasEyes(int kind, int hour) {
            if (kind == YOUNG) {
                return hour < EVENING;
            }
            return kind != DREAMER || hour >= EVENING;
        }

        static boolean isNear(int who, int ahead) {
            return ahead == NONE || Math.abs(who - ahead) <= 1;
        }

        static int seerIn(Family family, int[] holders, int hour) {
            if (hour < 0 || hour >= holders.length || !family.isOne(holders[hour])) {
                return NONE;
            }
            int who = holders[hour];
            int ahead = hour == 0 ? NONE : holders[hour - 1];
            return hasEyes(family.kindOf(who), hour) && isNear(who, ahead) ? who : NONE;
        }

        void look(Family family, int[] holders) {
            for (int k = 0; k < KIN_LIMIT; k++) {
                hoursByOne[k] = 0;
            }
            for (int hour = 0; hour < HOURS && hour < holders.length; hour++) {
                int who = seerIn(family, holders, hour);
                handed[hour] = holders[hour];
                seers[hour] = who;
                if (who >= 0 && who < KIN_LIMIT) {
                    hoursByOne[who] |= 1 << hour;
                }
            }
        }

        int hoursOf(int k) {
            return k >= 0 && k < KIN_LIMIT ? hoursByOne[k] : 0;
        }

        int hoursSeen() {
            int bits = 0;
            for (int k = 0; k < KIN_LIMIT; k++) {
                bits |= hoursByOne[k];
            }
            return bits;
        }

        boolean isDone(Family family, int i) {
            int from = family.works.at(i, 1);
            int to = family.works.at(i, 2);
            int span = (1 << (to + 1)) - (1 << from);
            return (hoursOf(family.works.at(i, 0)) & span) != 0;
        }

        int donePieces(Family family) {
            int bits = 0;
            for (int i = 0; i < family.works.size; i++) {
                bits |= isDone(family, i) ? 1 << i : 0;
            }
            return bits;
        }

        int doneWorth(Family family) {
            int sum = 0;
            for (int i = 0; i < family.works.size; i++) {
                sum += isDone(family, i) ? family.worthOf(i) : 0;
            }
            return sum;
        }

        /** How many hand-overs each alone suffice for a piece of WORK: unbroken holdings in which its ONE SEES in time. */
        int chancesOf(Family family, int i) {
            int one = family.works.at(i, 0);
            int from = family.works.at(i, 1);
            int to = family.works.at(i, 2);
            int chances = 0;
            boolean isCounted = false;
            for (int hour = 0; hour < HOURS; hour++) {
                if (handed[hour] != one) {
                    isCounted = false;
                } else if (!isCounted && hour >= from && hour <= to && seers[hour] == one) {
                    isCounted = true;
                    chances++;
                }
            }
            return chances;
        }
    }

    /** Fractions of a whole that all odds here divide evenly: five hand-overs of one ONE at most, by tenths. */
    private static final class Odds {
        static final int MOST_CHANCES = 5;
        static final long WHOLE = 100000;

        /** The share of the whole in which not all of the chances are missed, each by v out of ten. */
        static long shareMet(int v, int chances) {
            long missed = WHOLE;
            for (int c = 0; c < chances && c < MOST_CHANCES; c++) {
                missed = missed / TEN * v;
            }
            return WHOLE - missed;
        }

        static long part(long share, int what) {
            long common = greatestCommon(share, WHOLE);
            if (common < 1) {
                return BAD;
            }
            return (what == 0 ? share : WHOLE) / common;
        }

        static long greatestCommon(long a, long b) {
            long low = a;
            long high = b;
            for (int step = 0; step < 100 && low != 0; step++) {
                long rest = high % low;
                high = low;
                low = rest;
            }
            return high;
        }
    }

    /** What each ONE believes behind each HOUR, if THE EYE goes by a rota. */
    private static final class Day {
        static final int BELIEFS = KIN_LIMIT * THINGS;

        final int[] values = new int[HOURS * BELIEFS];
        final int[] ages = new int[HOURS * BELIEFS];

        static int placeOf(int k, int i, int hour) {
            return (hour * KIN_LIMIT + k) * THINGS + i;
        }

        void live(Family family, int[] holders) {
            for (int hour = 0; hour < HOURS; hour++) {
                growOlder(family, hour);
                lookOut(family, holders, hour);
                passOn(family, hour);
            }
        }

        private void growOlder(Family family, int hour) {
            for (int k = 0; k < KIN_LIMIT; k++) {
                int keeps = family.keepsOf(k);
                for (int i = 0; i < THINGS; i++) {
                    int place = placeOf(k, i, hour);
                    int before = place - BELIEFS;
                    boolean stays = hour > 0 && values[before] != NONE && ages[before] < keeps;
                    values[place] = stays ? values[before] : NONE;
                    ages[place] = stays ? ages[before] + 1 : NONE;
                }
            }
        }

        private void lookOut(Family family, int[] holders, int hour) {
            int who = Sight.seerIn(family, holders, hour);
            if (family.isOne(who)) {
                int post = family.postOf(who);
                believe(placeOf(who, post, hour), family.valueBehind(post, hour), 0);
            }
        }

        private void passOn(Family family, int hour) {
            for (int t = 0; t < family.tellings.size; t++) {
                if (family.tellings.at(t, 0) == hour) {
                    int thing = family.tellings.at(t, 3);
                    int who = family.tellings.at(t, 1);
                    int value = valueOf(who, thing, hour);
                    if (value != NONE) {
                        int whom = family.tellings.at(t, 2);
                        believe(placeOf(whom, thing, hour), value, ageOf(who, thing, hour));
                    }
                }
            }
        }

        private void believe(int place, int value, int age) {
            if (place >= 0 && place < values.length) {
                values[place] = value;
                ages[place] = age;
            }
        }

        int valueOf(int k, int i, int hour) {
            int place = placeOf(k, i, hour);
            return place >= 0 && place < values.length ? values[place] : NONE;
        }

        int ageOf(int k, int i, int hour) {
            int place = placeOf(k, i, hour);
            return place >= 0 && place < ages.length ? ages[place] : NONE;
        }

        int rightOnes(Family family, int i, int hour) {
            int truth = family.valueBehind(i, hour);
            int bits = 0;
            for (int k = 0; k < family.kin.size; k++) {
                bits |= valueOf(k, i, hour) == truth ? 1 << k : 0;
            }
            return bits;
        }

        int wrongOnes(Family family, int i, int hour) {
            int truth = family.valueBehind(i, hour);
            int bits = 0;
            for (int k = 0; k < family.kin.size; k++) {
                int value = valueOf(k, i, hour);
                bits |= value != NONE && value != truth ? 1 << k : 0;
            }
            return bits;
        }

        boolean isAsSeen(Rows seen) {
            for (int s = 0; s < seen.size; s++) {
                if (valueOf(seen.at(s, 0), seen.at(s, 1), seen.at(s, 2)) != seen.at(s, 3)) {
                    return false;
                }
            }
            return true;
        }

        void copyLast(int[] answers, int place) {
            if (place >= 0 && place <= answers.length - BELIEFS) {
                System.arraycopy(values, (HOURS - 1) * BELIEFS, answers, place, BELIEFS);
            }
        }
    }

    /** The rota by which most WORTH is DONE: from the last HOUR back, for who had THE EYE and what is DONE so far. */
    private static final class Planner {
        static final int HOLDERS = KIN_LIMIT + 1;
        static final int SETS = 1 << WORK_LIMIT;

        final int[] most = new int[(HOURS + 1) * HOLDERS * SETS];
        final int[] gains = new int[HOLDERS];
        final int[] plan = new int[HOURS];
        final Rows plannedKin = new Rows(2, KIN_LIMIT);
        final Rows plannedWorks = new Rows(4, WORK_LIMIT);
        boolean isPlanned;
        int planWorth;

        /** Plans anew only for other KIN or WORK: a caller who asks for each HOUR asks eleven times the same. */
        void planFor(Family family) {
            if (isPlanned && plannedKin.isLike(family.kin) && plannedWorks.isLike(family.works)) {
                return;
            }
            plannedKin.copyFrom(family.kin);
            plannedWorks.copyFrom(family.works);
            isPlanned = true;
            fillEnd(family);
            for (int hour = HOURS - 1; hour >= 0; hour--) {
                fillHour(family, hour);
            }
            takeFirst(family);
        }

        private static int placeOf(int hour, int ahead, int set) {
            return (hour * HOLDERS + ahead) * SETS + set;
        }

        private void fillEnd(Family family) {
            int sets = 1 << family.works.size;
            for (int set = 0; set < sets; set++) {
                int worth = 0;
                for (int i = 0; i < family.works.size; i++) {
                    worth += (set & (1 << i)) != 0 ? family.worthOf(i) : 0;
                }
                for (int ahead = 0; ahead <= family.kin.size; ahead++) {
                    most[placeOf(HOURS, ahead, set)] = worth;
                }
            }
        }

        private void fillHour(Family family, int hour) {
            int begun = worksBegunAhead(family, hour);
            for (int ahead = 0; ahead <= family.kin.size; ahead++) {
                findGains(family, hour, ahead);
                for (int set = 0; set <= begun; set++) {
                    if ((set & ~begun) == 0) {
                        most[placeOf(hour, ahead, set)] = mostFrom(hour, set, family.kin.size);
                    }
                }
            }
        }

        /** No other WORK can be DONE ahead of the HOUR, so that no other sets have to be filled. */
        private static int worksBegunAhead(Family family, int hour) {
            int bits = 0;
            for (int i = 0; i < family.works.size; i++) {
                bits |= family.works.at(i, 1) < hour ? 1 << i : 0;
            }
            return bits;
        }

        private int mostFrom(int hour, int set, int nobody) {
            int top = 0;
            int base = placeOf(hour + 1, 0, 0);
            for (int who = 0; who <= nobody; who++) {
                int worth = most[base + (set | gains[who])];
                if (worth > top) {
                    top = worth;
                }
                base += SETS;
            }
            return top;
        }

        /** What WORK each would do in the HOUR; the number behind the last ONE stands for nobody. */
        private void findGains(Family family, int hour, int ahead) {
            int nobody = family.kin.size;
            for (int who = 0; who < nobody; who++) {
                boolean isNear = hour == 0 || Sight.isNear(who, ahead == nobody ? NONE : ahead);
                boolean seesThen = isNear && Sight.hasEyes(family.kindOf(who), hour);
                gains[who] = seesThen ? worksIn(family, who, hour) : 0;
            }
            gains[nobody] = 0;
        }

        private int worksIn(Family family, int who, int hour) {
            int bits = 0;
            for (int i = 0; i < family.works.size; i++) {
                Rows works = family.works;
                boolean isDone = works.at(i, 0) == who && works.at(i, 1) <= hour && works.at(i, 2) >= hour;
                bits |= isDone ? 1 << i : 0;
            }
            return bits;
        }

        private void takeFirst(Family family) {
            int nobody = family.kin.size;
            int ahead = nobody;
            int set = 0;
            planWorth = most[placeOf(0, ahead, set)];
            for (int hour = 0; hour < HOURS; hour++) {
                findGains(family, hour, ahead);
                int who = 0;
                while (who < nobody && most[placeOf(hour + 1, who, set | gains[who])] < planWorth) {
                    who++;
                }
                plan[hour] = who == nobody ? NONE : who;
                set |= gains[who];
                ahead = who;
            }
        }
    }

    /** Reads a tape into a draft, TOKEN by TOKEN, up to the first FAULT. */
    private static final class Reader {
        static final int END = 0;
        static final int NAME = 1;
        static final int NUMBER = 2;
        static final int STOP = 3;

        static final int NO_TOKEN = 1;
        static final int MISPLACED = 2;
        static final int OUT_OF_BOUNDS = 3;
        static final int TOLD_TWICE = 4;
        static final int TOO_MANY = 5;
        static final int NO_SUCH_ONE = 6;

        static final int NOBODY = 5;

        final Family draft = new Family();
        final Rows source;
        int lines;
        int faultMet;
        int faultPlace;
        private int token;
        private int place;
        private int next;
        private int number;
        private int thingsTold;
        private boolean isRotaTold;

        Reader(Rows tape) {
            source = tape;
        }

        void readTape() {
            draft.makeEmpty();
            lines = 0;
            faultMet = 0;
            faultPlace = 0;
            next = 0;
            thingsTold = 0;
            isRotaTold = false;
            boolean goesOn = takeToken() && token != END;
            while (goesOn && lines < TAPE_LIMIT) {
                goesOn = takeLine();
                if (goesOn) {
                    lines++;
                    goesOn = takeToken() && token != END;
                }
            }
            if (faultMet == 0 && !draft.namesOnlyKin()) {
                place = source.size;
                meet(NO_SUCH_ONE);
            }
        }

        private boolean meet(int fault) {
            faultMet = fault;
            faultPlace = place;
            return false;
        }

        private static boolean isLetter(int c) {
            return c >= 'a' && c <= 'z';
        }

        private static boolean isFigure(int c) {
            return c >= '0' && c <= '9';
        }

        private boolean takeToken() {
            while (next < source.size && source.at(next, 0) == ' ') {
                next++;
            }
            place = next;
            int c = source.at(place, 0);
            if (place >= source.size) {
                token = END;
            } else if (isLetter(c)) {
                token = NAME;
                passLetters();
            } else if (isFigure(c)) {
                token = NUMBER;
                return takeFigures();
            } else if (c == ';') {
                token = STOP;
                next++;
            } else {
                return meet(NO_TOKEN);
            }
            return true;
        }

        private void passLetters() {
            while (next < source.size && isLetter(source.at(next, 0))) {
                next++;
            }
        }

        private boolean takeFigures() {
            number = 0;
            while (next < source.size && isFigure(source.at(next, 0))) {
                if (next - place >= 2) {
                    return meet(NO_TOKEN);
                }
                number = number * TEN + source.at(next, 0) - '0';
                next++;
            }
            return true;
        }

        private boolean isWord(String word) {
            if (next - place != word.length()) {
                return false;
            }
            for (int i = 0; i < word.length(); i++) {
                if (source.at(place + i, 0) != word.charAt(i)) {
                    return false;
                }
            }
            return true;
        }

        private boolean takeLine() {
            if (token != NAME) {
                return meet(MISPLACED);
            }
            if (isWord("plain")) {
                return takeOne(PLAIN);
            }
            if (isWord("young")) {
                return takeOne(YOUNG);
            }
            if (isWord("old")) {
                return takeOne(OLD);
            }
            if (isWord("dreamer")) {
                return takeOne(DREAMER);
            }
            if (isWord("thing")) {
                return takeThing();
            }
            if (isWord("turn")) {
                return takeTurn();
            }
            if (isWord("rota")) {
                return takeRota();
            }
            if (isWord("work")) {
                return takeWork();
            }
            return isWord("tell") ? takeTelling() : meet(MISPLACED);
        }

        private boolean takeNumber(int least, int most) {
            if (!takeToken()) {
                return false;
            }
            if (token != NUMBER) {
                return meet(MISPLACED);
            }
            return number >= least && number <= most || meet(OUT_OF_BOUNDS);
        }

        private boolean takeStop() {
            return takeToken() && (token == STOP || meet(MISPLACED));
        }

        private boolean hasRoom(Rows rows) {
            return rows.size < rows.limit || meet(TOO_MANY);
        }

        private boolean takeOne(int kind) {
            if (!hasRoom(draft.kin) || !takeNumber(0, THINGS - 1) || !takeStop()) {
                return false;
            }
            draft.kin.add(kind, number, 0, 0);
            return true;
        }

        private boolean takeThing() {
            if (!takeNumber(0, THINGS - 1)) {
                return false;
            }
            int thing = number;
            if ((thingsTold & (1 << thing)) != 0) {
                return meet(TOLD_TWICE);
            }
            if (!takeNumber(0, TOP_VALUE) || !takeStop()) {
                return false;
            }
            thingsTold |= 1 << thing;
            if (thing >= 0 && thing < THINGS) {
                draft.firstValues[thing] = number;
            }
            return true;
        }

        private boolean takeTurn() {
            if (!hasRoom(draft.turns) || !takeNumber(0, HOURS - 1)) {
                return false;
            }
            int hour = number;
            if (!takeNumber(0, THINGS - 1)) {
                return false;
            }
            int thing = number;
            if (!takeNumber(0, TOP_VALUE) || !takeStop()) {
                return false;
            }
            draft.turns.add(hour, thing, number, 0);
            return true;
        }

        private boolean takeRota() {
            if (isRotaTold) {
                return meet(TOLD_TWICE);
            }
            isRotaTold = true;
            for (int hour = 0; hour <= HOURS; hour++) {
                if (!takeToken()) {
                    return false;
                }
                if (token == STOP) {
                    return true;
                }
                if (token != NUMBER) {
                    return meet(MISPLACED);
                }
                // A NUMBER too many is refused ahead of a look at its bounds.
                if (hour >= HOURS) {
                    return meet(TOO_MANY);
                }
                if (number > NOBODY) {
                    return meet(OUT_OF_BOUNDS);
                }
                draft.holders[hour] = number == NOBODY ? NONE : number;
            }
            return false;
        }

        private boolean takeWork() {
            if (!hasRoom(draft.works) || !takeNumber(0, KIN_LIMIT - 1)) {
                return false;
            }
            int one = number;
            if (!takeNumber(0, HOURS - 1)) {
                return false;
            }
            int from = number;
            if (!takeNumber(from, HOURS - 1)) {
                return false;
            }
            int to = number;
            if (!takeNumber(1, TOP_WORTH) || !takeStop()) {
                return false;
            }
            draft.works.add(one, from, to, number);
            return true;
        }

        private boolean takeTelling() {
            if (!hasRoom(draft.tellings) || !takeNumber(0, HOURS - 1)) {
                return false;
            }
            int hour = number;
            if (!takeNumber(0, KIN_LIMIT - 1)) {
                return false;
            }
            int who = number;
            if (!takeNumber(0, KIN_LIMIT - 1)) {
                return false;
            }
            int whom = number;
            if (whom == who) {
                return meet(OUT_OF_BOUNDS);
            }
            if (!takeNumber(0, THINGS - 1) || !takeStop()) {
                return false;
            }
            draft.tellings.add(hour, who, whom, number);
            return true;
        }
    }

    /** A SHEET; its cells are wide enough for each lane, so that a new row needs no new array. */
    private static final class Page {
        final int[] cells = new int[CELL_LIMIT];
        int lane;
        int length = NONE;

        void makeNew(int newLane, int n) {
            lane = newLane;
            length = Math.min(n, CELL_LIMIT);
            for (int i = 0; i < CELL_LIMIT; i++) {
                cells[i] = 0;
            }
        }

        int faultAt(int i) {
            if (length == NONE) {
                return FAULT_NULL;
            }
            return i < 0 || i >= length ? FAULT_INDEX : 0;
        }

        /** A cast refuses another lane ahead of any CELL, but lets nothing pass: that is found at the CELL. */
        int faultOfPair(int asLane, int i) {
            if (length != NONE && lane != asLane) {
                return FAULT_CAST;
            }
            int fault = faultAt(i);
            return fault != 0 ? fault : faultAt(i + 1);
        }

        int cellAt(int i) {
            return i >= 0 && i < length ? cells[i] : 0;
        }

        void putCell(int i, int v) {
            if (i >= 0 && i < length) {
                cells[i] = lane == 0 ? (byte) v : lane == 1 ? (short) v : v;
            }
        }
    }
}
