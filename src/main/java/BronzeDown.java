/**
 * A figure in bronze that wants down, its seasons and visitors, and what would become of it.
 * The numbered promises of ../shared/DOC.md say what each call does and answers.
 */
public final class BronzeDown {
    private static final int LOW = -1000000000;
    private static final int BEYOND = LOW - 1;
    private static final int NONE = LOW - 2;
    private static final int STATE = LOW - 3;
    private static final int FULL = LOW - 4;
    private static final int KIND = LOW - 5;
    private static final int KINDS_OF_ERRORS = 5;

    private static final int SEASONS = 6;
    private static final int SHEETS = 4;
    private static final int SHEET_ROOM = 40;
    private static final int TAPE_ROOM = 50;
    private static final int WAITING_ROOM = 20;
    private static final int LAST_YEAR = 9999;
    private static final int MOST_WANT = 99;
    private static final int MOST_LEAN = 99;
    private static final int MOST_HAT = 99;
    private static final int MOST_LOUD = 9;
    private static final int MOST_EVERY = 12;
    private static final int MOST_KM = 69;
    private static final int MOST_AHEAD = 60;
    private static final int FALLEN = 60;
    private static final int MOST_GAIT = 12;
    private static final int MOST_ODDS = 30;
    private static final int WANTS_OF_ODDS = 10;
    private static final int[] MOST_OF_FIGURE = {MOST_WANT, MOST_LEAN, MOST_HAT, 60, 15};

    private final State now = new State();
    private final State kept = new State();
    private int images = 0;
    // Every question of what would be is asked of this one, never of now.
    private final Course thought = new Course();
    private final Sheet[] sheets = new Sheet[SHEETS];
    private final Reader reader = new Reader();
    private final Voices voices = new Voices();
    private final int[] errors = new int[KINDS_OF_ERRORS + 1];

    public BronzeDown() {
        for (int i = 0; i < sheets.length; i++) {
            sheets[i] = new Sheet();
        }
    }

    // ---- seasons, the figure, steps, trees

    public int season(int season, int what, int v) {
        int[] row = now.course.rowOfSeasons(what);
        if (row == null || !isPlace(season, row) || !within(v, 0, 9)) {
            return fails(BEYOND);
        }
        int was = row[season];
        row[season] = v;
        return was;
    }

    public int ofSeason(int season, int what) {
        int[] row = now.course.rowOfSeasons(what);
        if (row == null || !isPlace(season, row)) {
            return fails(BEYOND);
        }
        return row[season];
    }

    public int figure(int what, int v) {
        if (!isPlace(what, MOST_OF_FIGURE) || !within(v, 0, MOST_OF_FIGURE[what])) {
            return fails(BEYOND);
        }
        int was = now.partOfFigure(what);
        now.setPartOfFigure(what, v);
        return was;
    }

    public int ofFigure(int what) {
        switch (what) {
            case 5:
                return now.course.weight();
            case 6:
                return now.course.yearning();
            case 7:
                return now.course.shifting();
            default:
                return isPlace(what, MOST_OF_FIGURE) ? now.partOfFigure(what) : fails(BEYOND);
        }
    }

    public int step(int step, int what, int v) {
        int[] row = now.grounds.rowOfSteps(what);
        if (row == null || !isPlace(step, row) || !within(v, 0, what == 0 ? 9 : 99)) {
            return fails(BEYOND);
        }
        int was = row[step];
        row[step] = v;
        return was;
    }

    public int ofStep(int step, int what) {
        if (what == 2 && within(step, 0, Grounds.STEPS - 1)) {
            return now.grounds.isGood(step, now.course.weight()) ? 1 : 0;
        }
        int[] row = now.grounds.rowOfSteps(what);
        if (row == null || !isPlace(step, row)) {
            return fails(BEYOND);
        }
        return row[step];
    }

    public int trees(int row, int set) {
        int[] rows = now.grounds.trees;
        if (!isPlace(row, rows) || !within(set, 0, 255)) {
            return fails(BEYOND);
        }
        int was = rows[row];
        rows[row] = set;
        return was;
    }

    // ---- visitors

    public int visitor(int km, int loud, int every) {
        if (!within(km, 0, MOST_KM) || !within(loud, 0, MOST_LOUD) || !within(every, 1, MOST_EVERY)) {
            return fails(BEYOND);
        }
        int number = now.course.visitors.add(km, loud, every);
        return number >= 0 ? number : fails(FULL);
    }

    public int ofVisitor(int visitor, int what) {
        Visitors visitors = now.course.visitors;
        if (!visitors.has(visitor) || !within(what, 0, 5)) {
            return fails(BEYOND);
        }
        switch (what) {
            case 0:
                return visitors.kind[visitor];
            case 1:
                return visitors.m[visitor];
            case 2:
                return visitors.loud[visitor];
            case 3:
                return visitors.every[visitor];
            case 4:
                return visitors.comes(visitor, now.course.year, now.course.rainNow()) ? 1 : 0;
            default:
                return visitors.keeps(visitor, now.course.want, now.course.heatNow());
        }
    }

    public int change(int visitor, int what, int v) {
        Visitors visitors = now.course.visitors;
        boolean fits = what == 0 && within(v, 0, MOST_LOUD) || what == 1 && within(v, 1, MOST_EVERY);
        if (!visitors.has(visitor) || !fits) {
            return fails(BEYOND);
        }
        int[] row = what == 0 ? visitors.loud : visitors.every;
        int was = row[visitor];
        row[visitor] = v;
        return was;
    }

    public int become(int visitor, int km) {
        Visitors visitors = now.course.visitors;
        if (!visitors.has(visitor) || !within(km, 0, MOST_KM)) {
            return fails(BEYOND);
        }
        int was = visitors.kind[visitor];
        visitors.kind[visitor] = km / 10;
        visitors.m[visitor] = km % 10;
        return was;
    }

    public int as(int visitor, int kind) {
        Visitors visitors = now.course.visitors;
        if (!visitors.has(visitor) || !within(kind, 0, Visitors.KINDS - 1)) {
            return fails(BEYOND);
        }
        return Visitors.isUnder(visitors.kind[visitor], kind) ? visitors.m[visitor] : fails(KIND);
    }

    // ---- texts

    public int feed(long word, int n) {
        if (!within(n, 1, 8)) {
            return fails(BEYOND);
        }
        if (now.tape.size + n > TAPE_ROOM) {
            return fails(FULL);
        }
        for (int i = 0; i < n; i++) {
            now.tape.add((int) ((word >>> (8 * i)) & 255));
        }
        return now.tape.size;
    }

    public int text(int use) {
        if (!within(use, 0, 1)) {
            return fails(BEYOND);
        }
        int fault = reader.read(now.tape, use);
        now.tape.clear();
        if (fault >= 0) {
            return -10 - fault;
        }
        now.course.lawOf(use).copyFrom(reader.law);
        return 1;
    }

    public int law(int use, int a, int b, int c) {
        if (!within(use, 0, 1)) {
            return fails(BEYOND);
        }
        return now.course.given(use, a, b, c);
    }

    // ---- years

    public int years(int n) {
        if (!within(n, 1, 60)) {
            return fails(BEYOND);
        }
        if (now.course.year + n > LAST_YEAR) {
            return fails(STATE);
        }
        return now.course.pass(n);
    }

    public int loose(int n) {
        if (!within(n, 1, 40)) {
            return fails(BEYOND);
        }
        if (now.course.year + n > LAST_YEAR) {
            return fails(STATE);
        }
        for (int i = 0; i < n; i++) {
            now.drawRain();
            now.course.pass(1);
        }
        return now.course.lean;
    }

    // ---- what would be

    public int then(int n, int what) {
        if (!within(n, 0, MOST_AHEAD) || !within(what, 0, 2)) {
            return fails(BEYOND);
        }
        thinkAfresh();
        thought.pass(n);
        switch (what) {
            case 0:
                return thought.want;
            case 1:
                return thought.lean;
            default:
                return thought.hat;
        }
    }

    public int falls() {
        thinkAfresh();
        for (int n = 0; n <= MOST_AHEAD; n++) {
            if (thought.lean >= FALLEN) {
                return n;
            }
            thought.pass(1);
        }
        return fails(NONE);
    }

    public int wet(int n, int v) {
        if (!within(n, 0, MOST_AHEAD) || !within(v, 1, MOST_HAT)) {
            return fails(BEYOND);
        }
        thinkAfresh();
        int wetYears = 0;
        for (int i = 0; i < n; i++) {
            thought.pass(1);
            if (thought.hat >= v) {
                wetYears++;
            }
        }
        return wetYears;
    }

    public int loudFor(int visitor, int n, int v) {
        if (!now.course.visitors.has(visitor) || !within(n, 0, MOST_AHEAD) || !within(v, 0, MOST_LEAN)) {
            return fails(BEYOND);
        }
        for (int loud = 0; loud <= MOST_LOUD; loud++) {
            thinkAfresh();
            thought.visitors.loud[visitor] = loud;
            if (thought.pass(n) <= v) {
                return loud;
            }
        }
        return fails(NONE);
    }

    public int everyFor(int visitor, int n) {
        if (!now.course.visitors.has(visitor) || !within(n, 0, MOST_AHEAD)) {
            return fails(BEYOND);
        }
        int best = 1;
        int least = MOST_LEAN + 1;
        for (int every = 1; every <= MOST_EVERY; every++) {
            thinkAfresh();
            thought.visitors.every[visitor] = every;
            int lean = thought.pass(n);
            if (lean < least) {
                least = lean;
                best = every;
            }
        }
        return best;
    }

    public int needless(int n) {
        if (!within(n, 0, MOST_AHEAD)) {
            return fails(BEYOND);
        }
        thinkAfresh();
        int withAll = thought.pass(n);
        int set = 0;
        for (int i = 0; i < now.course.visitors.size; i++) {
            thinkAfresh();
            thought.visitors.away = i;
            if (thought.pass(n) <= withAll) {
                set |= 1 << i;
            }
        }
        return set;
    }

    public int wanted(int sheet, int what) {
        Sheet told = sheetOf(sheet);
        if (told == null || !within(what, 0, 1)) {
            return fails(BEYOND);
        }
        if (told.isMissing()) {
            return fails(NONE);
        }
        int many = 0;
        int least = MOST_WANT + 1;
        for (int want = 0; want <= MOST_WANT; want++) {
            thinkAfresh();
            thought.want = want;
            if (firstUnlike(told.row) < 0) {
                many++;
                least = Math.min(least, want);
            }
        }
        return what == 0 ? many : many > 0 ? least : fails(NONE);
    }

    public int which(int sheet, int visitor) {
        Sheet told = sheetOf(sheet);
        if (told == null || !now.course.visitors.has(visitor)) {
            return fails(BEYOND);
        }
        if (told.isMissing()) {
            return fails(NONE);
        }
        int set = 0;
        for (int kind = 0; kind < Visitors.KINDS; kind++) {
            thinkAfresh();
            thought.visitors.kind[visitor] = kind;
            if (firstUnlike(told.row) < 0) {
                set |= 1 << kind;
            }
        }
        return set;
    }

    public int stair(int what) {
        if (!within(what, 0, 1)) {
            return fails(BEYOND);
        }
        int set = now.grounds.leastStair(now.course.weight());
        if (set < 0) {
            return fails(NONE);
        }
        return what == 0 ? set : Integer.bitCount(set);
    }

    public int exact() {
        return now.grounds.exactStairs(now.course.weight());
    }

    public int house(int sheet, int what) {
        Sheet told = sheetOf(sheet);
        if (told == null || !within(what, 0, 1)) {
            return fails(BEYOND);
        }
        if (told.isMissing()) {
            return fails(NONE);
        }
        int many = 0;
        int first = -1;
        for (int cell = 0; cell < Grounds.CELLS; cell++) {
            if (now.grounds.isToldOf(cell, told.row)) {
                first = many == 0 ? cell : first;
                many++;
            }
        }
        return what == 0 ? many : many > 0 ? first : fails(NONE);
    }

    public int power(int visitor) {
        Visitors visitors = now.course.visitors;
        return visitors.has(visitor) ? visitors.ordersTippedBy(visitor) : fails(BEYOND);
    }

    public int gait(int n) {
        return within(n, 0, MOST_GAIT) ? now.grounds.gaits(n) : fails(BEYOND);
    }

    public int odds(int n, int v, int part) {
        if (!within(n, 0, MOST_ODDS) || !within(v, 0, MOST_LEAN) || !within(part, 0, 1)) {
            return fails(BEYOND);
        }
        int held = 0;
        for (int i = 0; i < WANTS_OF_ODDS; i++) {
            thinkAfresh();
            thought.want = 10 * i;
            if (thought.pass(n) <= v) {
                held++;
            }
        }
        return inLowestTerms(held, WANTS_OF_ODDS, part);
    }

    // ---- draws, voices, sheets, images, what is told

    public int seed(int v) {
        int was = now.z;
        now.z = v;
        return was;
    }

    public int voice(int visitor, int act, int x) {
        Visitors visitors = now.course.visitors;
        if (!visitors.has(visitor) || !within(act, 0, Voices.ACTS - 1)) {
            return fails(BEYOND);
        }
        return voices.raise(visitor, visitors.kind[visitor], visitors.m[visitor], act, x);
    }

    public int trace(int i) {
        return voices.bodies.has(i) ? voices.bodies.at(i) : fails(NONE);
    }

    public int sheet(int sheet, int bits, int n) {
        Sheet made = sheetOf(sheet);
        if (made == null || !Sheet.areBits(bits)) {
            return fails(BEYOND);
        }
        if (bits != 0 && n < 0) {
            return fails(STATE);
        }
        if (bits != 0 && n > SHEET_ROOM) {
            return fails(BEYOND);
        }
        made.make(bits, bits == 0 ? 0 : n);
        return 1;
    }

    public int put(int sheet, int i, int v) {
        Sheet written = sheetOf(sheet);
        if (written == null) {
            return fails(BEYOND);
        }
        if (written.isMissing()) {
            return fails(NONE);
        }
        if (!written.row.has(i)) {
            return fails(BEYOND);
        }
        written.write(i, v);
        return 1;
    }

    public int move(int sheet, int i, int other, int j, int n) {
        Sheet from = sheetOf(sheet);
        Sheet to = sheetOf(other);
        if (from == null || to == null) {
            return fails(BEYOND);
        }
        if (from.isMissing() || to.isMissing()) {
            return fails(NONE);
        }
        if (from.bits != to.bits) {
            return fails(KIND);
        }
        if (!from.row.hasRun(i, n) || !to.row.hasRun(j, n)) {
            return fails(BEYOND);
        }
        to.row.takeRun(from.row, i, j, n);
        return n;
    }

    public int talls(int sheet) {
        Sheet told = sheetOf(sheet);
        if (told == null) {
            return fails(BEYOND);
        }
        return told.isMissing() ? fails(NONE) : now.grounds.takeTalls(told.row);
    }

    public int judge(int sheet) {
        Sheet told = sheetOf(sheet);
        if (told == null) {
            return fails(BEYOND);
        }
        return told.isMissing() ? fails(NONE) : now.course.visitors.firstNotSoLoud(told.row);
    }

    public int image() {
        kept.copyFrom(now);
        images++;
        return images;
    }

    public int restore() {
        if (images == 0) {
            return fails(NONE);
        }
        now.copyFrom(kept);
        return now.course.year;
    }

    public int tell(int v) {
        return now.waiting.add(v) ? now.waiting.size : fails(FULL);
    }

    public int check() {
        thinkAfresh();
        int unlike = firstUnlike(now.waiting);
        now.waiting.clear();
        return unlike + 1;
    }

    public int count(int what) {
        switch (what) {
            case 0:
                return now.course.visitors.size;
            case 1:
                return now.course.year;
            case 2:
                return now.course.want;
            case 3:
                return now.course.lean;
            case 4:
                return now.course.hat;
            case 5:
                return now.course.visitors.loudOfAll();
            case 6:
                return now.grounds.treesOfAll();
            case 7:
                return now.tape.size;
            case 8:
                return now.waiting.size;
            case 9:
                return voices.bodies.size;
            case 10:
                return now.z;
            default:
                return fails(BEYOND);
        }
    }

    public int told(int k) {
        return within(k, 1, KINDS_OF_ERRORS) ? errors[k] : fails(BEYOND);
    }

    // ---- what the calls share

    private int fails(int error) {
        int k = LOW - error;
        if (isPlace(k, errors)) {
            errors[k]++;
        }
        return error;
    }

    private static boolean within(int v, int least, int most) {
        return v >= least && v <= most;
    }

    private static boolean isPlace(int i, int[] row) {
        return i >= 0 && i < row.length;
    }

    private static int inLowestTerms(int above, int below, int part) {
        for (int d = below; d > 1; d--) {
            if (above % d == 0 && below % d == 0) {
                return part == 0 ? above / d : below / d;
            }
        }
        return part == 0 ? above : below;
    }

    private Sheet sheetOf(int sheet) {
        return sheet >= 0 && sheet < sheets.length ? sheets[sheet] : null;
    }

    private void thinkAfresh() {
        thought.copyFrom(now.course);
    }

    /** The first place of the row that isn't LEAN behind that many YEARS of the thought, and one; -1: none. */
    private int firstUnlike(Row told) {
        for (int i = 0; i < told.size; i++) {
            if (thought.pass(1) != told.at(i)) {
                return i;
            }
        }
        return -1;
    }

    /** Numbers in a row with room for so many. */
    private static final class Row {
        private final int[] numbers;
        private int size = 0;

        Row(int room) {
            numbers = new int[Math.max(room, 0)];
        }

        boolean has(int i) {
            return i >= 0 && i < size && i < numbers.length;
        }

        int at(int i) {
            return i >= 0 && i < size && i < numbers.length ? numbers[i] : 0;
        }

        void write(int i, int v) {
            if (has(i)) {
                numbers[i] = v;
            }
        }

        boolean add(int v) {
            if (size >= numbers.length) {
                return false;
            }
            numbers[size] = v;
            size++;
            return true;
        }

        void clear() {
            size = 0;
        }

        void fillWithZeros(int n) {
            size = Math.max(0, Math.min(n, numbers.length));
            for (int i = 0; i < size; i++) {
                numbers[i] = 0;
            }
        }

        boolean hasRun(int from, int n) {
            return from >= 0 && n >= 0 && from <= size && n <= size - from;
        }

        /** The two rows may be one: the numbers come as they all were. */
        void takeRun(Row other, int from, int to, int n) {
            if (other.hasRun(from, n) && hasRun(to, n)) {
                System.arraycopy(other.numbers, from, numbers, to, n);
            }
        }

        void copyFrom(Row other) {
            size = Math.min(other.size, numbers.length);
            takeRun(other, 0, 0, size);
        }
    }

    /** A row of 8, 16 or 32 bits; of 0 bits: it is missing. */
    private static final class Sheet {
        private final Row row = new Row(SHEET_ROOM);
        private int bits = 0;

        static boolean areBits(int bits) {
            return bits == 0 || bits == 8 || bits == 16 || bits == 32;
        }

        boolean isMissing() {
            return bits == 0;
        }

        void make(int newBits, int n) {
            bits = newBits;
            row.fillWithZeros(n);
        }

        void write(int i, int v) {
            row.write(i, bits == 8 ? (byte) v : bits == 16 ? (short) v : v);
        }
    }

    /** Those who come and keep it up there, by numbers. */
    private static final class Visitors {
        private static final int KINDS = 7;
        private static final int MOST = 8;
        private static final int PLAIN = 0;
        private static final int PARADE = 1;
        private static final int PIGEON = 2;
        private static final int TALKER = 3;
        private static final int BAND = 4;
        private static final int DOVE = 5;
        private static final int GENERAL = 6;
        private static final int NOBODY = -1;
        private static final int[] KIND_ABOVE = {-1, PLAIN, PLAIN, PLAIN, PARADE, PIGEON, TALKER};
        private static final int[] ORDERS = {1, 1, 2, 6, 24, 120, 720, 5040, 40320};

        private final int[] kind = new int[MOST];
        private final int[] m = new int[MOST];
        private final int[] loud = new int[MOST];
        private final int[] every = new int[MOST];
        private int size = 0;
        // In thought alone one may stay away without the others' numbers changing.
        private int away = NOBODY;

        boolean has(int i) {
            return i >= 0 && i < size && size <= MOST;
        }

        /** The new one's number; -1: there is no room. */
        int add(int km, int newLoud, int newEvery) {
            if (size >= MOST) {
                return -1;
            }
            kind[size] = km / 10;
            m[size] = km % 10;
            loud[size] = newLoud;
            every[size] = newEvery;
            size++;
            return size - 1;
        }

        static int kindAbove(int kind) {
            return isPlace(kind, KIND_ABOVE) ? KIND_ABOVE[kind] : -1;
        }

        static boolean isUnder(int kind, int above) {
            int k = kind;
            for (int i = 0; i < KINDS && k >= 0; i++) {
                if (k == above) {
                    return true;
                }
                k = kindAbove(k);
            }
            return false;
        }

        boolean comes(int i, int year, int rain) {
            if (!has(i) || i == away) {
                return false;
            }
            boolean due = every[i] > 0 && year % every[i] == 0;
            switch (kind[i]) {
                case PIGEON:
                    return rain < 5;
                case BAND:
                    return due && rain <= 6;
                case DOVE:
                    return rain < 5 && due;
                case GENERAL:
                    return due && year % 10 != m[i];
                default:
                    return due;
            }
        }

        int keeps(int i, int want, int heat) {
            if (!has(i)) {
                return 0;
            }
            int talk = loud[i] / 2 + m[i] / 3;
            switch (kind[i]) {
                case PARADE:
                    return loud[i];
                case PIGEON:
                    return 1;
                case TALKER:
                    return talk;
                case BAND:
                    return loud[i] + (heat > 5 ? 2 : 0);
                case DOVE:
                    return 2;
                case GENERAL:
                    return want > 60 ? 0 : 2 * talk;
                default:
                    return loud[i] / 2;
            }
        }

        int loudOfAll() {
            return loudOf((1 << size) - 1);
        }

        private int loudOf(int set) {
            int sum = 0;
            for (int i = 0; i < MOST; i++) {
                sum += (set >> i & 1) * loud[i];
            }
            return sum;
        }

        /** Counts by the set that came ahead of one: its orders, times those of the set that comes behind. */
        int ordersTippedBy(int i) {
            if (!has(i)) {
                return 0;
            }
            int all = loudOfAll();
            int orders = 0;
            for (int set = 0; set < 1 << size; set++) {
                int ahead = loudOf(set);
                boolean tips = 2 * ahead <= all && 2 * (ahead + loud[i]) > all;
                if ((set >> i & 1) == 0 && tips) {
                    int n = Integer.bitCount(set);
                    orders += ordersOf(n) * ordersOf(size - 1 - n);
                }
            }
            return orders;
        }

        private static int ordersOf(int n) {
            return isPlace(n, ORDERS) ? ORDERS[n] : 0;
        }

        int firstNotSoLoud(Row told) {
            int most = Math.max(size, told.size);
            for (int i = 0; i < most; i++) {
                if (!has(i) || !told.has(i) || loud[i] != told.at(i)) {
                    return i;
                }
            }
            return -1;
        }

        void copyFrom(Visitors other) {
            System.arraycopy(other.kind, 0, kind, 0, MOST);
            System.arraycopy(other.m, 0, m, 0, MOST);
            System.arraycopy(other.loud, 0, loud, 0, MOST);
            System.arraycopy(other.every, 0, every, 0, MOST);
            size = other.size;
            away = other.away;
        }
    }

    /** A TEXT, as a row of marks: what is joined stands ahead of the sign that joins it. */
    private static final class Law {
        private static final int FIRST_NAME = -1;
        private static final int LAST_NAME = -3;

        // A mark is a number (0 to 9999), a name (-1 to -3), or a sign (its byte, less than 0).
        private final Row marks = new Row(TAPE_ROOM);
        private final int[] stack = new int[TAPE_ROOM];
        private boolean isThere = false;

        void copyFrom(Law other) {
            marks.copyFrom(other.marks);
            isThere = other.isThere;
        }

        int workOut(int a, int b, int c) {
            int top = 0;
            for (int i = 0; i < marks.size; i++) {
                int mark = marks.at(i);
                if (mark >= LAST_NAME) {
                    if (top < stack.length) {
                        stack[top] = operand(mark, a, b, c);
                        top++;
                    }
                } else if (mark == -'!') {
                    if (top >= 1 && top <= stack.length) {
                        stack[top - 1] = stack[top - 1] == 0 ? 1 : 0;
                    }
                } else if (top >= 2 && top <= stack.length) {
                    top--;
                    stack[top - 1] = joined(-mark, stack[top - 1], stack[top]);
                }
            }
            return top > 0 ? stack[0] : 0;
        }

        private static int operand(int mark, int a, int b, int c) {
            if (mark >= 0) {
                return mark;
            }
            return mark == FIRST_NAME ? a : mark == LAST_NAME ? c : b;
        }

        private static int joined(int sign, int p, int q) {
            switch (sign) {
                case '|':
                    return p != 0 || q != 0 ? 1 : 0;
                case '&':
                    return p != 0 && q != 0 ? 1 : 0;
                case '<':
                    return p < q ? 1 : 0;
                case '=':
                    return p == q ? 1 : 0;
                case '>':
                    return p > q ? 1 : 0;
                case '+':
                    return p + q;
                case '-':
                    return p - q;
                case '*':
                    return p * q;
                case '/':
                    return q == 0 ? 0 : p / q;
                case '%':
                    return q == 0 ? 0 : p % q;
                default:
                    return 0;
            }
        }
    }

    /** Reads THE TAPE as a TEXT. */
    private static final class Reader {
        private static final int COMPARED = 2;
        private static final int LEVELS = 5;
        private static final int MOST_OPEN = 5;
        private static final int MOST_DIGITS = 4;

        private final Row signs = new Row(TAPE_ROOM);
        private final Law law = new Law();
        private int use = 0;
        private int at = 0;
        private boolean faulty = false;

        /** The FAULT; -1: there is none, and the law is what was read. */
        int read(Row tape, int newUse) {
            signs.copyFrom(tape);
            use = newUse;
            at = 0;
            faulty = false;
            law.isThere = true;
            law.marks.clear();
            readLevel(0, 0);
            faulty = faulty || at < signs.size;
            return faulty ? at : -1;
        }

        /** Levels 0 to 4 are T, A, B, S, P; level 5 is Q. */
        private void readLevel(int level, int open) {
            if (level >= LEVELS) {
                readUnit(open);
                return;
            }
            readLevel(level + 1, open);
            int mostSigns = level == COMPARED ? 1 : TAPE_ROOM;
            for (int i = 0; i < mostSigns && !faulty && levelOf(next()) == level; i++) {
                int sign = next();
                at++;
                readLevel(level + 1, open);
                law.marks.add(-sign);
            }
        }

        private void readUnit(int open) {
            int sign = next();
            if (isDigit(sign)) {
                readNumber();
            } else if (nameOf(sign) != 0) {
                at++;
                law.marks.add(nameOf(sign));
            } else if (sign == '!' && open < MOST_OPEN) {
                at++;
                readUnit(open + 1);
                law.marks.add(-'!');
            } else if (sign == '(' && open < MOST_OPEN) {
                at++;
                readLevel(0, open + 1);
                close();
            } else {
                faulty = true;
            }
        }

        private void close() {
            if (!faulty && next() == ')') {
                at++;
            } else {
                faulty = true;
            }
        }

        private void readNumber() {
            int number = 0;
            for (int i = 0; i < MOST_DIGITS && isDigit(next()); i++) {
                number = number * 10 + next() - '0';
                at++;
            }
            law.marks.add(number);
        }

        /** The byte that is due; -1 behind the last. */
        private int next() {
            return signs.has(at) ? signs.at(at) : -1;
        }

        private static boolean isDigit(int sign) {
            return sign >= '0' && sign <= '9';
        }

        private int nameOf(int sign) {
            switch (sign) {
                case 'w':
                    return -1;
                case 'h':
                    return -2;
                case 'l':
                    return use == 0 ? -3 : 0;
                case 'f':
                    return use == 1 ? -3 : 0;
                default:
                    return 0;
            }
        }

        private static int levelOf(int sign) {
            switch (sign) {
                case '|':
                    return 0;
                case '&':
                    return 1;
                case '<':
                case '=':
                case '>':
                    return COMPARED;
                case '+':
                case '-':
                    return 3;
                case '*':
                case '/':
                case '%':
                    return 4;
                default:
                    return LEVELS;
            }
        }
    }

    /** All that a YEAR works on, so that it can be thought, too. */
    private static final class Course {
        private static final int YEARNS = 0;
        private static final int SHIFTS = 1;

        private final int[] heat = {3, 3, 3, 3, 3, 3};
        private final int[] rain = {0, 1, 2, 3, 4, 5};
        private final Visitors visitors = new Visitors();
        private final Law yearns = new Law();
        private final Law shifts = new Law();
        private int want = 10;
        private int lean = 0;
        private int hat = 0;
        private int year = 0;

        int[] rowOfSeasons(int what) {
            return what == 0 ? heat : what == 1 ? rain : null;
        }

        int heatNow() {
            return heat[Math.floorMod(year, SEASONS)];
        }

        int rainNow() {
            return rain[Math.floorMod(year, SEASONS)];
        }

        int weight() {
            return 40 + hat / 4;
        }

        Law lawOf(int use) {
            return use == YEARNS ? yearns : shifts;
        }

        int given(int use, int a, int b, int c) {
            Law law = lawOf(use);
            if (use == YEARNS) {
                return Math.max(0, Math.min(20, law.isThere ? law.workOut(a, b, c) : b));
            }
            return Math.max(0, Math.min(9, law.isThere ? law.workOut(a, b, c) : a / 10));
        }

        int yearning() {
            return given(YEARNS, want, heatNow(), lean);
        }

        int shifting() {
            return given(SHIFTS, want, heatNow(), hat);
        }

        /** LEAN behind n YEARS. */
        int pass(int n) {
            for (int i = 0; i < n; i++) {
                passYear();
            }
            return lean;
        }

        private void passYear() {
            want = Math.min(MOST_WANT, want + yearning());
            int heatOfYear = heatNow();
            int rainOfYear = rainNow();
            for (int i = 0; i < visitors.size; i++) {
                if (visitors.comes(i, year, rainOfYear)) {
                    want = Math.max(0, want - visitors.keeps(i, want, heatOfYear));
                }
            }
            lean = Math.min(MOST_LEAN, lean + shifting());
            hat = Math.min(MOST_HAT, Math.max(0, hat - heatOfYear) + rainOfYear);
            year++;
        }

        void copyFrom(Course other) {
            System.arraycopy(other.heat, 0, heat, 0, SEASONS);
            System.arraycopy(other.rain, 0, rain, 0, SEASONS);
            visitors.copyFrom(other.visitors);
            yearns.copyFrom(other.yearns);
            shifts.copyFrom(other.shifts);
            want = other.want;
            lean = other.lean;
            hat = other.hat;
            year = other.year;
        }
    }

    /** What stands about the figure, and the horse's feet. */
    private static final class Grounds {
        private static final int STEPS = 10;
        private static final int ROWS = 8;
        private static final int CELLS = 64;
        private static final int FEET_SETS = 16;
        private static final int MOST_TOLD = 3;

        private final int[] tall = {0, 1, 2, 3, 4, 5, 6, 7, 8, 9};
        private final int[] bears = {50, 50, 50, 50, 50, 50, 50, 50, 50, 50};
        private final int[] trees = new int[ROWS];
        // Rows of gaits(), made once: nothing of them stays from call to call.
        private final int[] ways = new int[FEET_SETS];
        private final int[] waysNext = new int[FEET_SETS];
        private int high = 20;
        private int feet = 1;

        int[] rowOfSteps(int what) {
            return what == 0 ? tall : what == 1 ? bears : null;
        }

        boolean isGood(int step, int weight) {
            return isPlace(step, bears) && bears[step] >= weight;
        }

        private int goodSteps(int weight) {
            int set = 0;
            for (int i = 0; i < STEPS; i++) {
                if (isGood(i, weight)) {
                    set |= 1 << i;
                }
            }
            return set;
        }

        private int tallOf(int set) {
            int sum = 0;
            for (int i = 0; i < STEPS; i++) {
                sum += (set >> i & 1) * tall[i];
            }
            return sum;
        }

        /** The set; -1: there is none. */
        int leastStair(int weight) {
            int good = goodSteps(weight);
            int best = -1;
            int fewest = STEPS + 1;
            for (int set = 0; set < 1 << STEPS; set++) {
                boolean fewer = (set & ~good) == 0 && Integer.bitCount(set) < fewest;
                if (fewer && tallOf(set) >= high) {
                    best = set;
                    fewest = Integer.bitCount(set);
                }
            }
            return best;
        }

        int exactStairs(int weight) {
            int good = goodSteps(weight);
            int many = 0;
            for (int set = 0; set < 1 << STEPS; set++) {
                if ((set & ~good) == 0 && tallOf(set) == high) {
                    many++;
                }
            }
            return many;
        }

        int takeTalls(Row told) {
            int n = Math.min(told.size, STEPS);
            for (int i = 0; i < n; i++) {
                if (!within(told.at(i), 0, 9)) {
                    return i;
                }
                tall[i] = told.at(i);
            }
            return n;
        }

        int treesOfAll() {
            int sum = 0;
            for (int i = 0; i < ROWS; i++) {
                sum += treesOfRow(i);
            }
            return sum;
        }

        boolean isToldOf(int cell, Row told) {
            if (told.size > MOST_TOLD) {
                return false;
            }
            int row = cell / ROWS;
            int place = cell % ROWS;
            return (told.size < 1 || told.at(0) == treesOfRow(row))
                && (told.size < 2 || told.at(1) == treesOfLine(place))
                && (told.size < 3 || told.at(2) == treesNextTo(row, place));
        }

        private int treesOfRow(int row) {
            return isPlace(row, trees) ? Integer.bitCount(trees[row]) : 0;
        }

        private int treesOfLine(int place) {
            int sum = 0;
            for (int row = 0; row < ROWS; row++) {
                sum += treeAt(row, place);
            }
            return sum;
        }

        private int treesNextTo(int row, int place) {
            int sum = -treeAt(row, place);
            for (int r = row - 1; r <= row + 1; r++) {
                for (int p = place - 1; p <= place + 1; p++) {
                    sum += treeAt(r, p);
                }
            }
            return sum;
        }

        /** 0 over the edges, too. */
        private int treeAt(int row, int place) {
            boolean isCell = isPlace(row, trees) && within(place, 0, ROWS - 1);
            return isCell ? trees[row] >> place & 1 : 0;
        }

        int gaits(int n) {
            if (!isPlace(feet, ways) || tumbles(feet)) {
                return 0;
            }
            for (int set = 0; set < FEET_SETS; set++) {
                ways[set] = set == feet ? 1 : 0;
            }
            for (int i = 0; i < n; i++) {
                moveOneFoot();
            }
            return ways[feet];
        }

        private void moveOneFoot() {
            for (int set = 0; set < FEET_SETS; set++) {
                boolean stands = !tumbles(set);
                waysNext[set] = stands ? ways[set ^ 1] + ways[set ^ 2] + ways[set ^ 4] + ways[set ^ 8] : 0;
            }
            System.arraycopy(waysNext, 0, ways, 0, FEET_SETS);
        }

        private static boolean tumbles(int set) {
            return Integer.bitCount(set) > 2 || (set & 3) == 3 || (set & 12) == 12;
        }

        void copyFrom(Grounds other) {
            System.arraycopy(other.tall, 0, tall, 0, STEPS);
            System.arraycopy(other.bears, 0, bears, 0, STEPS);
            System.arraycopy(other.trees, 0, trees, 0, ROWS);
            high = other.high;
            feet = other.feet;
        }
    }

    /** All that an IMAGE keeps. */
    private static final class State {
        private final Course course = new Course();
        private final Grounds grounds = new Grounds();
        private final Row tape = new Row(TAPE_ROOM);
        private final Row waiting = new Row(WAITING_ROOM);
        private int z = 1;

        int partOfFigure(int what) {
            switch (what) {
                case 0:
                    return course.want;
                case 1:
                    return course.lean;
                case 2:
                    return course.hat;
                case 3:
                    return grounds.high;
                default:
                    return grounds.feet;
            }
        }

        void setPartOfFigure(int what, int v) {
            switch (what) {
                case 0:
                    course.want = v;
                    break;
                case 1:
                    course.lean = v;
                    break;
                case 2:
                    course.hat = v;
                    break;
                case 3:
                    grounds.high = v;
                    break;
                default:
                    grounds.feet = v;
                    break;
            }
        }

        void drawRain() {
            int season = draw() % SEASONS;
            int fallen = draw() % 10;
            if (isPlace(season, course.rain)) {
                course.rain[season] = fallen;
            }
        }

        private int draw() {
            z = z * 1103515245 + 12345;
            return z >>> 8;
        }

        void copyFrom(State other) {
            course.copyFrom(other.course);
            grounds.copyFrom(other.grounds);
            tape.copyFrom(other.tape);
            waiting.copyFrom(other.waiting);
            z = other.z;
        }
    }

    /** What a VISITOR says, and THE TRACE of it. */
    private static final class Voices {
        private static final int ACTS = 4;
        private static final int CALLS = 0;
        private static final int HOLDS = 1;
        private static final int NODS = 2;
        private static final int TELLS = 3;
        private static final int TRACE_ROOM = 40;
        // No kind's voice comes near to so many that stand open at once.
        private static final int MOST_OPEN = 40;
        // By KIND and act, ACTS to a KIND; 0 where a KIND has none of its own.
        private static final int[] BODIES = {
            10, 11, 12, 13,
            20, 0, 0, 0,
            0, 30, 0, 0,
            0, 0, 40, 0,
            0, 0, 0, 50,
            0, 60, 0, 0,
            0, 0, 70, 71};

        private final Row bodies = new Row(TRACE_ROOM);
        private int number = 0;
        private int kind = 0;
        private int m = 0;

        int raise(int newNumber, int newKind, int newM, int act, int x) {
            number = newNumber;
            kind = newKind;
            m = newM;
            bodies.clear();
            return say(act, kind, x, 0);
        }

        /** The BODY of a KIND, or of the next above that has one. */
        private int say(int act, int from, int x, int open) {
            int owner = ownerOf(act, from);
            if (owner < 0 || open > MOST_OPEN) {
                return 0;
            }
            int body = bodyOf(act, owner);
            bodies.add(body);
            int above = Visitors.kindAbove(owner);
            return body < 20 ? sayPlain(body, x, open + 1) : saySpecial(body, above, x, open + 1);
        }

        private int sayPlain(int body, int x, int open) {
            switch (body) {
                case 10:
                    return x + number;
                case 11:
                    return say(CALLS, kind, x, open) * 2;
                case 12:
                    return x - m;
                default:
                    return say(HOLDS, kind, x, open) ^ say(NODS, kind, x, open);
            }
        }

        private int saySpecial(int body, int above, int x, int open) {
            switch (body) {
                case 20:
                    return say(CALLS, above, x, open) * 3;
                case 30:
                    return say(HOLDS, above, x, open) - say(NODS, kind, 1, open);
                case 40:
                    return -say(NODS, above, x, open);
                case 50:
                    return say(TELLS, above, x, open) - say(CALLS, kind, 2, open);
                case 60:
                    return say(HOLDS, above, x + 1, open);
                case 70:
                    return say(NODS, above, x, open) ^ number;
                default:
                    return say(HOLDS, kind, x, open) - say(TELLS, above, x, open);
            }
        }

        private static int ownerOf(int act, int from) {
            int k = from;
            for (int i = 0; i < Visitors.KINDS && k >= 0; i++) {
                if (bodyOf(act, k) != 0) {
                    return k;
                }
                k = Visitors.kindAbove(k);
            }
            return -1;
        }

        private static int bodyOf(int act, int kind) {
            int i = kind * ACTS + act;
            return isPlace(i, BODIES) ? BODIES[i] : 0;
        }
    }
}
