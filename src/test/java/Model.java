import java.util.ArrayList;
import java.util.List;
import java.util.function.IntUnaryOperator;

/**
 * What DOC.md says, written again in another way than the class: kinds as Java classes, texts worked out from
 * their signs, orders and sets counted one by one. Only for tests: it is slow and makes objects freely.
 */
final class Model {
    /** An ERROR, by its k. */
    static final class Refused extends RuntimeException {
        private static final long serialVersionUID = 1L;
        final int k;

        Refused(int k) {
            super(null, null, false, false);
            this.k = k;
        }
    }

    private static final int BEYOND = 1;
    private static final int NONE = 2;
    private static final int STATE = 3;
    private static final int FULL = 4;
    private static final int KIND = 5;

    static class Guest implements Cloneable {
        int number;
        int m;
        int loud;
        int every;
        List<Integer> bodies = new ArrayList<>();

        int kind() {
            return 0;
        }

        boolean comes(int year, int rain) {
            return year % every == 0;
        }

        int keeps(int want, int heat) {
            return loud / 2;
        }

        int calls(int x) {
            bodies.add(10);
            return x + number;
        }

        int holds(int x) {
            bodies.add(11);
            return calls(x) * 2;
        }

        int nods(int x) {
            bodies.add(12);
            return x - m;
        }

        int tells(int x) {
            bodies.add(13);
            return holds(x) ^ nods(x);
        }

        Guest copy() {
            return guest(kind(), number, m, loud, every);
        }
    }

    static class Parade extends Guest {
        @Override int kind() {
            return 1;
        }

        @Override int keeps(int want, int heat) {
            return loud;
        }

        @Override int calls(int x) {
            bodies.add(20);
            return super.calls(x) * 3;
        }
    }

    static class Pigeon extends Guest {
        @Override int kind() {
            return 2;
        }

        @Override boolean comes(int year, int rain) {
            return rain < 5;
        }

        @Override int keeps(int want, int heat) {
            return 1;
        }

        @Override int holds(int x) {
            bodies.add(30);
            return super.holds(x) - nods(1);
        }
    }

    static class Talker extends Guest {
        @Override int kind() {
            return 3;
        }

        @Override int keeps(int want, int heat) {
            return super.keeps(want, heat) + m / 3;
        }

        @Override int nods(int x) {
            bodies.add(40);
            return -super.nods(x);
        }
    }

    static class Band extends Parade {
        @Override int kind() {
            return 4;
        }

        @Override boolean comes(int year, int rain) {
            return !(rain > 6) && super.comes(year, rain);
        }

        @Override int keeps(int want, int heat) {
            return heat > 5 ? super.keeps(want, heat) + 2 : super.keeps(want, heat);
        }

        @Override int tells(int x) {
            bodies.add(50);
            return super.tells(x) - calls(2);
        }
    }

    static class Dove extends Pigeon {
        @Override int kind() {
            return 5;
        }

        @Override boolean comes(int year, int rain) {
            return year % every == 0 && super.comes(year, rain);
        }

        @Override int keeps(int want, int heat) {
            return 2 * super.keeps(want, heat);
        }

        @Override int holds(int x) {
            bodies.add(60);
            return super.holds(x + 1);
        }
    }

    static class General extends Talker {
        @Override int kind() {
            return 6;
        }

        @Override boolean comes(int year, int rain) {
            return year % 10 != m && super.comes(year, rain);
        }

        @Override int keeps(int want, int heat) {
            return want > 60 ? 0 : 2 * super.keeps(want, heat);
        }

        @Override int nods(int x) {
            bodies.add(70);
            return super.nods(x) ^ number;
        }

        @Override int tells(int x) {
            bodies.add(71);
            return holds(x) - super.tells(x);
        }
    }

    private static final Class<?>[] KINDS = {Guest.class, Parade.class, Pigeon.class, Talker.class, Band.class,
        Dove.class, General.class};

    static Guest guest(int kind, int number, int m, int loud, int every) {
        Guest[] ofKind = {new Guest(), new Parade(), new Pigeon(), new Talker(), new Band(), new Dove(), new General()};
        Guest g = ofKind[kind];
        g.number = number;
        g.m = m;
        g.loud = loud;
        g.every = every;
        return g;
    }

    /** A TEXT worked out from its signs; what no TEXT begins with is found by trying how it might end. */
    static final class Words {
        private final String signs;
        private final String names;
        private final int[] worths;
        private int at = 0;
        private int open = 0;

        private Words(String signs, String names, int... worths) {
            this.signs = signs;
            this.names = names;
            this.worths = worths;
        }

        static int worth(String signs, String names, int... worths) {
            return new Words(signs, names, worths).t();
        }

        static boolean isText(String signs, String names) {
            Words w = new Words(signs, names, 1, 1, 1);
            try {
                w.t();
                return w.at == signs.length();
            } catch (Refused r) {
                return false;
            }
        }

        static boolean goesOn(String signs, String names) {
            String end = "";
            for (int closed = 0; closed <= 5; closed++) {
                if (isText(signs + end, names) || isText(signs + "1" + end, names)) {
                    return true;
                }
                end = end + ")";
            }
            return false;
        }

        /** -1: it is a TEXT. */
        static int fault(String signs, String names) {
            for (int n = 1; n <= signs.length(); n++) {
                if (!goesOn(signs.substring(0, n), names)) {
                    return n - 1;
                }
            }
            return isText(signs, names) ? -1 : signs.length();
        }

        private boolean comes(char c) {
            if (at < signs.length() && signs.charAt(at) == c) {
                at++;
                return true;
            }
            return false;
        }

        private int t() {
            int v = a();
            while (comes('|')) {
                int w = a();
                v = v != 0 | w != 0 ? 1 : 0;
            }
            return v;
        }

        private int a() {
            int v = b();
            while (comes('&')) {
                int w = b();
                v = v != 0 & w != 0 ? 1 : 0;
            }
            return v;
        }

        private int b() {
            int v = s();
            if (comes('<')) {
                return v < s() ? 1 : 0;
            }
            if (comes('=')) {
                return v == s() ? 1 : 0;
            }
            if (comes('>')) {
                return v > s() ? 1 : 0;
            }
            return v;
        }

        private int s() {
            int v = p();
            for (;;) {
                if (comes('+')) {
                    v += p();
                } else if (comes('-')) {
                    v -= p();
                } else {
                    return v;
                }
            }
        }

        private int p() {
            int v = q();
            for (;;) {
                if (comes('*')) {
                    v *= q();
                } else if (comes('/')) {
                    int w = q();
                    v = w == 0 ? 0 : v / w;
                } else if (comes('%')) {
                    int w = q();
                    v = w == 0 ? 0 : v % w;
                } else {
                    return v;
                }
            }
        }

        private int q() {
            if (at >= signs.length()) {
                throw new Refused(0);
            }
            if (comes('!') || comes('(')) {
                boolean not = signs.charAt(at - 1) == '!';
                open++;
                if (open > 5) {
                    throw new Refused(0);
                }
                int v = not ? (q() == 0 ? 1 : 0) : t();
                if (!not && !comes(')')) {
                    throw new Refused(0);
                }
                open--;
                return v;
            }
            int name = names.indexOf(signs.charAt(at));
            if (name >= 0) {
                at++;
                return worths[name];
            }
            int end = at;
            while (end < signs.length() && end < at + 4 && signs.charAt(end) >= '0' && signs.charAt(end) <= '9') {
                end++;
            }
            if (end == at) {
                throw new Refused(0);
            }
            int v = Integer.parseInt(signs.substring(at, end));
            at = end;
            return v;
        }
    }

    private static final String[] NAMES = {"whl", "whf"};

    private int[][] seasons = {{3, 0}, {3, 1}, {3, 2}, {3, 3}, {3, 4}, {3, 5}};
    private int[] figure = {10, 0, 0, 20, 1};
    private int year = 0;
    private int[][] steps = {{0, 50}, {1, 50}, {2, 50}, {3, 50}, {4, 50}, {5, 50}, {6, 50}, {7, 50}, {8, 50}, {9, 50}};
    private int[] trees = new int[8];
    private List<Guest> guests = new ArrayList<>();
    private String[] texts = new String[2];
    private String tape = "";
    private int z = 1;
    private List<Integer> waiting = new ArrayList<>();

    private List<Integer> bodies = new ArrayList<>();
    private final int[][] sheets = new int[4][];
    private final int[] bits = new int[4];
    private final int[] errors = new int[6];
    private int images = 0;
    private Model kept = null;

    /** All that an IMAGE keeps. */
    private Model copy() {
        Model c = new Model();
        c.take(this);
        return c;
    }

    private void take(Model o) {
        for (int i = 0; i < 6; i++) {
            seasons[i] = o.seasons[i].clone();
        }
        figure = o.figure.clone();
        year = o.year;
        for (int i = 0; i < 10; i++) {
            steps[i] = o.steps[i].clone();
        }
        trees = o.trees.clone();
        guests = new ArrayList<>();
        for (Guest g : o.guests) {
            guests.add(g.copy());
        }
        texts = o.texts.clone();
        tape = o.tape;
        z = o.z;
        waiting = new ArrayList<>(o.waiting);
    }

    /** What a refused call answers. */
    int refused(int k) {
        errors[k]++;
        return -1000000000 - k;
    }

    private static void ask(boolean so, int k) {
        if (!so) {
            throw new Refused(k);
        }
    }

    private static void in(int v, int least, int most) {
        ask(least <= v && v <= most, BEYOND);
    }

    private Guest guestOf(int i) {
        in(i, 0, guests.size() - 1);
        return guests.get(i);
    }

    int season(int season, int what, int v) {
        in(season, 0, 5);
        in(what, 0, 1);
        in(v, 0, 9);
        int was = seasons[season][what];
        seasons[season][what] = v;
        return was;
    }

    int ofSeason(int season, int what) {
        in(season, 0, 5);
        in(what, 0, 1);
        return seasons[season][what];
    }

    int figure(int what, int v) {
        in(what, 0, 4);
        in(v, 0, what < 3 ? 99 : what == 3 ? 60 : 15);
        int was = figure[what];
        figure[what] = v;
        return was;
    }

    private int weight() {
        return 40 + figure[2] / 4;
    }

    private int heat() {
        return seasons[year % 6][0];
    }

    int ofFigure(int what) {
        in(what, 0, 7);
        if (what == 5) {
            return weight();
        }
        if (what == 6) {
            return law(0, figure[0], heat(), figure[1]);
        }
        return what == 7 ? law(1, figure[0], heat(), figure[2]) : figure[what];
    }

    int step(int step, int what, int v) {
        in(step, 0, 9);
        in(what, 0, 1);
        in(v, 0, what == 0 ? 9 : 99);
        int was = steps[step][what];
        steps[step][what] = v;
        return was;
    }

    int ofStep(int step, int what) {
        in(step, 0, 9);
        in(what, 0, 2);
        return what < 2 ? steps[step][what] : steps[step][1] < weight() ? 0 : 1;
    }

    int trees(int row, int set) {
        in(row, 0, 7);
        in(set, 0, 255);
        int was = trees[row];
        trees[row] = set;
        return was;
    }

    int visitor(int km, int loud, int every) {
        in(km, 0, 69);
        in(loud, 0, 9);
        in(every, 1, 12);
        ask(guests.size() < 8, FULL);
        guests.add(guest(km / 10, guests.size(), km % 10, loud, every));
        return guests.size() - 1;
    }

    int ofVisitor(int visitor, int what) {
        Guest g = guestOf(visitor);
        in(what, 0, 5);
        int[] all = {g.kind(), g.m, g.loud, g.every, g.comes(year, seasons[year % 6][1]) ? 1 : 0,
            g.keeps(figure[0], heat())};
        return all[what];
    }

    int change(int visitor, int what, int v) {
        Guest g = guestOf(visitor);
        in(what, 0, 1);
        in(v, what, what == 0 ? 9 : 12);
        int was = what == 0 ? g.loud : g.every;
        if (what == 0) {
            g.loud = v;
        } else {
            g.every = v;
        }
        return was;
    }

    int become(int visitor, int km) {
        Guest g = guestOf(visitor);
        in(km, 0, 69);
        guests.set(visitor, guest(km / 10, visitor, km % 10, g.loud, g.every));
        return g.kind();
    }

    int as(int visitor, int kind) {
        Guest g = guestOf(visitor);
        in(kind, 0, 6);
        ask(KINDS[kind].isInstance(g), KIND);
        return g.m;
    }

    int feed(long word, int n) {
        in(n, 1, 8);
        ask(tape.length() + n <= 50, FULL);
        for (int i = 0; i < n; i++) {
            tape += (char) (word & 255);
            word >>= 8;
        }
        return tape.length();
    }

    int text(int use) {
        in(use, 0, 1);
        int fault = Words.fault(tape, NAMES[use]);
        if (fault < 0) {
            texts[use] = tape;
        }
        tape = "";
        return fault < 0 ? 1 : -10 - fault;
    }

    int law(int use, int a, int b, int c) {
        in(use, 0, 1);
        String text = texts[use];
        if (text == null) {
            text = use == 0 ? "h" : "w/10";
        }
        int v = Words.worth(text, NAMES[use], a, b, c);
        int most = use == 0 ? 20 : 9;
        return v < 0 ? 0 : v > most ? most : v;
    }

    private void pass() {
        int rain = seasons[year % 6][1];
        figure[0] += law(0, figure[0], heat(), figure[1]);
        if (figure[0] > 99) {
            figure[0] = 99;
        }
        for (Guest g : guests) {
            if (g.comes(year, rain)) {
                figure[0] -= Math.min(figure[0], g.keeps(figure[0], heat()));
            }
        }
        figure[1] += law(1, figure[0], heat(), figure[2]);
        if (figure[1] > 99) {
            figure[1] = 99;
        }
        figure[2] -= Math.min(figure[2], heat());
        figure[2] += rain;
        if (figure[2] > 99) {
            figure[2] = 99;
        }
        year++;
    }

    int years(int n) {
        in(n, 1, 60);
        ask(year + n <= 9999, STATE);
        for (int i = 0; i < n; i++) {
            pass();
        }
        return figure[1];
    }

    private int draw() {
        z = (int) (z * 1103515245L + 12345L);
        return (int) ((z & 0xFFFFFFFFL) / 256);
    }

    int loose(int n) {
        in(n, 1, 40);
        ask(year + n <= 9999, STATE);
        for (int i = 0; i < n; i++) {
            int season = draw() % 6;
            seasons[season][1] = draw() % 10;
            pass();
        }
        return figure[1];
    }

    private Model behind(int n) {
        Model c = copy();
        for (int i = 0; i < n; i++) {
            c.pass();
        }
        return c;
    }

    int then(int n, int what) {
        in(n, 0, 60);
        in(what, 0, 2);
        return behind(n).figure[what];
    }

    int falls() {
        for (int n = 0; n <= 60; n++) {
            if (behind(n).figure[1] >= 60) {
                return n;
            }
        }
        throw new Refused(NONE);
    }

    int wet(int n, int v) {
        in(n, 0, 60);
        in(v, 1, 99);
        int many = 0;
        for (int i = 1; i <= n; i++) {
            many += behind(i).figure[2] >= v ? 1 : 0;
        }
        return many;
    }

    int loudFor(int visitor, int n, int v) {
        guestOf(visitor);
        in(n, 0, 60);
        in(v, 0, 99);
        for (int loud = 0; loud <= 9; loud++) {
            Model c = copy();
            c.guests.get(visitor).loud = loud;
            if (c.behind(n).figure[1] <= v) {
                return loud;
            }
        }
        throw new Refused(NONE);
    }

    int everyFor(int visitor, int n) {
        guestOf(visitor);
        in(n, 0, 60);
        int[] lean = new int[13];
        int least = 1000;
        for (int every = 1; every <= 12; every++) {
            Model c = copy();
            c.guests.get(visitor).every = every;
            lean[every] = c.behind(n).figure[1];
            least = Math.min(least, lean[every]);
        }
        int every = 1;
        while (lean[every] != least) {
            every++;
        }
        return every;
    }

    int needless(int n) {
        in(n, 0, 60);
        int set = 0;
        for (int i = 0; i < guests.size(); i++) {
            Model c = copy();
            c.guests.remove(i);
            set += c.behind(n).figure[1] > behind(n).figure[1] ? 0 : 1 << i;
        }
        return set;
    }

    private boolean leans(int[] told) {
        for (int i = 0; i < told.length; i++) {
            if (behind(i + 1).figure[1] != told[i]) {
                return false;
            }
        }
        return true;
    }

    private int[] rowOf(int sheet) {
        ask(sheets[sheet] != null, NONE);
        return sheets[sheet];
    }

    private int manyOrFirst(int most, int what, IntUnaryOperator isSo) {
        int many = 0;
        int first = -1;
        for (int i = most - 1; i >= 0; i--) {
            if (isSo.applyAsInt(i) == 1) {
                many++;
                first = i;
            }
        }
        ask(what == 0 || many > 0, NONE);
        return what == 0 ? many : first;
    }

    int wanted(int sheet, int what) {
        in(sheet, 0, 3);
        in(what, 0, 1);
        int[] told = rowOf(sheet);
        return manyOrFirst(100, what, want -> {
            Model c = copy();
            c.figure[0] = want;
            return c.leans(told) ? 1 : 0;
        });
    }

    int which(int sheet, int visitor) {
        in(sheet, 0, 3);
        Guest g = guestOf(visitor);
        int[] told = rowOf(sheet);
        int set = 0;
        for (int kind = 0; kind < 7; kind++) {
            Model c = copy();
            c.become(visitor, 10 * kind + g.m);
            set += c.leans(told) ? 1 << kind : 0;
        }
        return set;
    }

    private int tallOf(int set) {
        int sum = 0;
        for (int i = 0; i < 10; i++) {
            if ((set & 1 << i) != 0) {
                if (ofStep(i, 2) == 0) {
                    return -1;
                }
                sum += steps[i][0];
            }
        }
        return sum;
    }

    int stair(int what) {
        in(what, 0, 1);
        for (int many = 0; many <= 10; many++) {
            for (int set = 0; set < 1024; set++) {
                if (Integer.bitCount(set) == many && tallOf(set) >= figure[3]) {
                    return what == 0 ? set : many;
                }
            }
        }
        throw new Refused(NONE);
    }

    int exact() {
        int[] ways = new int[100];
        ways[0] = 1;
        for (int i = 0; i < 10; i++) {
            if (ofStep(i, 2) == 1) {
                for (int sum = 99; sum >= steps[i][0]; sum--) {
                    ways[sum] = ways[sum] + ways[sum - steps[i][0]];
                }
            }
        }
        return ways[figure[3]];
    }

    private boolean hasTree(int cell) {
        return (trees[cell / 8] & 1 << cell % 8) != 0;
    }

    int house(int sheet, int what) {
        in(sheet, 0, 3);
        in(what, 0, 1);
        int[] told = rowOf(sheet);
        return manyOrFirst(64, what, cell -> {
            int[] is = new int[3];
            for (int other = 0; other < 64; other++) {
                int down = Math.abs(other / 8 - cell / 8);
                int across = Math.abs(other % 8 - cell % 8);
                if (hasTree(other)) {
                    is[0] += down == 0 ? 1 : 0;
                    is[1] += across == 0 ? 1 : 0;
                    is[2] += Math.max(down, across) == 1 ? 1 : 0;
                }
            }
            boolean so = told.length <= 3;
            for (int i = 0; i < told.length && so; i++) {
                so = told[i] == is[i];
            }
            return so ? 1 : 0;
        });
    }

    int power(int visitor) {
        guestOf(visitor);
        return orders(0, 0, visitor);
    }

    /** Orders in which one tips, those of the set having come. */
    private int orders(int set, int loud, int one) {
        int orders = 0;
        for (int i = 0; i < guests.size(); i++) {
            if ((set & 1 << i) == 0) {
                int then = loud + guests.get(i).loud;
                if (2 * then <= count(5)) {
                    orders += orders(set | 1 << i, then, one);
                } else if (i == one) {
                    int left = 1;
                    for (int k = 2; k < guests.size() - Integer.bitCount(set); k++) {
                        left *= k;
                    }
                    orders += left;
                }
            }
        }
        return orders;
    }

    private static boolean falls(int feet) {
        boolean[] up = {(feet & 1) != 0, (feet & 2) != 0, (feet & 4) != 0, (feet & 8) != 0};
        int many = 0;
        for (boolean u : up) {
            many += u ? 1 : 0;
        }
        return many > 2 || up[0] && up[1] || up[2] && up[3];
    }

    private static int ways(int from, int to, int n) {
        if (falls(from)) {
            return 0;
        }
        if (n == 0) {
            return from == to ? 1 : 0;
        }
        int sum = 0;
        for (int foot = 0; foot < 4; foot++) {
            sum += ways(from ^ 1 << foot, to, n - 1);
        }
        return sum;
    }

    int gait(int n) {
        in(n, 0, 12);
        // An odd number of moves leads nowhere back, and an even one to where half of it leads, twice.
        int sum = 0;
        for (int half = 0; half < 16 && n % 2 == 0; half++) {
            int there = ways(figure[4], half, n / 2);
            sum += there * there;
        }
        return sum;
    }

    int odds(int n, int v, int part) {
        in(n, 0, 30);
        in(v, 0, 99);
        in(part, 0, 1);
        int held = 0;
        for (int i = 0; i < 10; i++) {
            Model c = copy();
            c.figure[0] = 10 * i;
            held += c.behind(n).figure[1] <= v ? 1 : 0;
        }
        int common = java.math.BigInteger.TEN.gcd(java.math.BigInteger.valueOf(held)).intValue();
        return part == 0 ? held / common : 10 / common;
    }

    int seed(int v) {
        int was = z;
        z = v;
        return was;
    }

    int voice(int visitor, int act, int x) {
        Guest g = guestOf(visitor);
        in(act, 0, 3);
        g.bodies.clear();
        int said = act == 0 ? g.calls(x) : act == 1 ? g.holds(x) : act == 2 ? g.nods(x) : g.tells(x);
        bodies = new ArrayList<>(g.bodies);
        return said;
    }

    int trace(int i) {
        ask(i >= 0 && i < bodies.size(), NONE);
        return bodies.get(i);
    }

    int sheet(int sheet, int bits, int n) {
        in(sheet, 0, 3);
        ask(bits == 0 || bits == 8 || bits == 16 || bits == 32, BEYOND);
        if (bits == 0) {
            sheets[sheet] = null;
            return 1;
        }
        ask(n >= 0, STATE);
        in(n, 0, 40);
        sheets[sheet] = new int[n];
        this.bits[sheet] = bits;
        return 1;
    }

    int put(int sheet, int i, int v) {
        in(sheet, 0, 3);
        int[] row = rowOf(sheet);
        in(i, 0, row.length - 1);
        row[i] = (int) (v & (1L << bits[sheet]) - 1);
        return 1;
    }

    int move(int sheet, int i, int other, int j, int n) {
        in(sheet, 0, 3);
        in(other, 0, 3);
        int[] from = rowOf(sheet);
        int[] to = rowOf(other);
        ask(bits[sheet] == bits[other], KIND);
        ask(n >= 0 && i >= 0 && j >= 0 && (long) i + n <= from.length && (long) j + n <= to.length, BEYOND);
        int[] were = from.clone();
        for (int k = 0; k < n; k++) {
            to[j + k] = were[i + k];
        }
        return n;
    }

    int talls(int sheet) {
        in(sheet, 0, 3);
        int n = 0;
        for (int v : rowOf(sheet)) {
            if (n == 10 || v < 0 || v > 9) {
                break;
            }
            steps[n][0] = v;
            n++;
        }
        return n;
    }

    int judge(int sheet) {
        in(sheet, 0, 3);
        return java.util.Arrays.mismatch(rowOf(sheet), guests.stream().mapToInt(g -> g.loud).toArray());
    }

    int image() {
        kept = copy();
        images++;
        return images;
    }

    int restore() {
        ask(kept != null, NONE);
        take(kept);
        return year;
    }

    int tell(int v) {
        ask(waiting.size() < 20, FULL);
        waiting.add(v);
        return waiting.size();
    }

    int check() {
        List<Integer> told = waiting;
        waiting = new ArrayList<>();
        for (int i = 0; i < told.size(); i++) {
            if (behind(i + 1).figure[1] != told.get(i)) {
                return 1 + i;
            }
        }
        return 0;
    }

    int count(int what) {
        in(what, 0, 10);
        int loud = 0;
        for (Guest g : guests) {
            loud += g.loud;
        }
        int stand = 0;
        for (int cell = 0; cell < 64; cell++) {
            stand += hasTree(cell) ? 1 : 0;
        }
        int[] all = {guests.size(), year, figure[0], figure[1], figure[2], loud, stand, tape.length(), waiting.size(),
            Math.min(40, bodies.size()), z};
        return all[what];
    }

    int told(int k) {
        in(k, 1, 5);
        return errors[k];
    }
}
