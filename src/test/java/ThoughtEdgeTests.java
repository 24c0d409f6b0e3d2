/** The edges of what would be: part 3 of the Terms, and promises 19 to 32. */
public final class ThoughtEdgeTests {
    private static final int[] BITS = {8, 16, 32};
    private static final int LAST = 9999;

    private ThoughtEdgeTests() {
    }

    public static void main(String[] args) {
        behindNoneAndSixty();
        beyondTheLastYear();
        falls();
        wet();
        loudFor();
        everyFor();
        needless();
        wanted();
        wantedByForty();
        which();
        whichByForty();
        askedBeyondTheLastYear();
        stair();
        exact();
        houseByNumbers();
        houseAtTheEdges();
        power();
        gait();
        odds();
        Due.end("ThoughtEdgeTests");
    }

    /** Without rain or heat. */
    private static Calls still(String yearns, String shifts) {
        return States.ofYear(0, yearns, shifts);
    }

    private static void behindNoneAndSixty() {
        Due.says("T3", "BEHIND n YEARS (0 to 60).");
        Calls c = new Calls();
        Calls other = new Calls();
        for (Calls x : new Calls[] {c, other}) {
            x.ask("visitor", 45, 4, 3);
            x.ask("figure", 0, 41);
            x.ask("figure", 1, 2);
            x.ask("figure", 2, 43);
        }
        int[] now = {41, 2, 43};
        for (int what = 0; what < 3; what++) {
            Due.due("behind 0", c.ask("then", 0, what), now[what]);
        }
        for (int n : new int[] {1, 59}) {
            other.ask("years", n);
            int all = other.ask("count", 1);
            for (int what = 0; what < 3; what++) {
                Due.due("behind " + all, c.ask("then", all, what), other.ask("count", 2 + what));
            }
        }
        Due.due("YEAR stays", c.ask("count", 1), 0);
    }

    private static void beyondTheLastYear() {
        Due.says("T3", "(All this is only thought, YEAR beyond 9999, too.)");
        Calls c = States.ofYear(LAST, "h", "0");
        for (int s = 0; s < 6; s++) {
            c.ask("season", s, 0, s + 1);
            c.ask("season", s, 1, s + 2);
        }
        int[] heats = {4, 5, 6, 1, 2, 3, 4, 5};
        int want = 0;
        c.ask("figure", 0, 0);
        for (int n = 1; n <= heats.length; n++) {
            want += heats[n - 1];
            Due.due("WANT by the SEASONS of 9999, 10000, ..", c.ask("then", n, 0), want);
            Due.due("HAT by these", c.ask("then", n, 2), n + 4);
        }
        Due.due("behind 60", c.ask("then", 60, 0), 99);
        Due.due("HAT behind 60", c.ask("then", 60, 2), 64);
        Calls v = States.ofYear(LAST, "0", "0");
        v.ask("visitor", 60, 2, 1);
        v.ask("figure", 0, 50);
        int[] behind = {50, 48, 48, 46, 44, 42, 40, 38, 36, 34, 32, 30, 30, 28};
        for (int n = 0; n < behind.length; n++) {
            Due.due("a GENERAL, but not in 10000, 10010, behind " + n, v.ask("then", n, 0), behind[n]);
        }
        v.ask("become", 0, 10);
        v.ask("change", 0, 1, 12);
        Due.due("every 12: in 10008", v.ask("then", 9, 0), 50);
        Due.due("every 12: in 10008", v.ask("then", 10, 0), 48);
        Due.due("every 12: in 10020", v.ask("then", 21, 0), 48);
        Due.due("every 12: in 10020", v.ask("then", 22, 0), 46);
        Due.due("every 12: to 10056", v.ask("then", 57, 0), 42);
        Due.due("every 12: to 10056", v.ask("then", 60, 0), 40);
        Due.due("YEAR stays", v.ask("count", 1), 9999);
    }

    private static void falls() {
        Due.says("T3", "FALLS: behind how many YEARS (0 to 60) LEAN is 60 or more first.");
        for (int year : new int[] {0, LAST}) {
            Calls c = States.ofYear(year, "0", "1");
            int[] leans = {0, 1, 2, 58, 59, 60, 61, 99};
            int[] falls = {60, 59, 58, 2, 1, 0, 0, 0};
            for (int i = 0; i < leans.length; i++) {
                c.ask("figure", 1, leans[i]);
                Due.due("of LEAN " + leans[i] + " in " + year, c.ask("falls"), falls[i]);
            }
            Due.says("P20", "NONE: not by 60.");
            for (int s = 0; s < 6; s++) {
                c.ask("season", s, 1, 1);
            }
            c.read(1, "f>0");
            c.ask("figure", 1, 0);
            Due.due("59 behind 60", c.ask("then", 60, 1), 59);
            Due.due("behind 61", c.ask("falls"), Due.NONE);
            c.ask("figure", 1, 1);
            Due.due("60 behind 60", c.ask("falls"), 60);
            c.read(1, "0");
            c.ask("figure", 1, 59);
            Due.due("never", c.ask("falls"), Due.NONE);
            Due.due("told", c.ask("told", 2), 2);
        }
    }

    private static void wet() {
        Due.says("T3", "WET by n (0 to 60), v (1 to 99): behind how many of 1, 2, .. n YEARS HAT is v or more.");
        for (int year : new int[] {0, LAST}) {
            Calls c = States.ofYear(year, "0", "0");
            int[][] by = {{99, 60, 99, 60}, {98, 60, 99, 0}, {98, 60, 98, 60}, {1, 60, 1, 60}, {0, 60, 1, 0},
                {99, 0, 1, 0}, {99, 1, 99, 1}, {50, 59, 50, 59}};
            for (int[] b : by) {
                c.ask("figure", 2, b[0]);
                Due.due("HAT " + b[0] + ", wet(" + b[1] + ", " + b[2] + ")", c.ask("wet", b[1], b[2]), b[3]);
            }
            for (int s = 0; s < 6; s++) {
                c.ask("season", s, 1, 1);
            }
            c.ask("figure", 2, 0);
            int[][] rising = {{0, 1, 0}, {1, 1, 1}, {1, 2, 0}, {60, 1, 60}, {60, 59, 2}, {60, 60, 1}, {60, 61, 0},
                {59, 60, 0}, {60, 99, 0}};
            for (int[] r : rising) {
                Due.due("1 more each YEAR, wet(" + r[0] + ", " + r[1] + ")", c.ask("wet", r[0], r[1]), r[2]);
            }
            c.ask("figure", 2, 39);
            Due.due("99 behind 60", c.ask("wet", 60, 99), 1);
        }
    }

    private static void loudFor() {
        Due.says("T3", "LOUD for one, n (0 to 60), v (0 to 99): the least LOUD (0 to 9) now with which LEAN is v or less behind n YEARS.");
        for (int loud = 0; loud <= 9; loud += 9) {
            Calls c = still("0", "w");
            c.ask("visitor", 10, loud, 1);
            int[][] by = {{0, 0, 0}, {1, 0, 1}, {8, 0, 8}, {9, 0, 9}, {10, 0, Due.NONE}, {10, 1, 9}, {9, 8, 1}, {9, 9, 0},
                {99, 8, Due.NONE}, {99, 9, 0}, {99, 99, 0}, {18, 9, 0}, {17, 8, 9}, {18, 8, Due.NONE}};
            for (int[] b : by) {
                c.ask("figure", 0, b[0]);
                Due.due("WANT " + b[0] + ", v " + b[1], c.ask("loudFor", 0, 1, b[1]), b[2]);
            }
            Due.due("LOUD stays", c.ask("ofVisitor", 0, 2), loud);
            c.ask("figure", 1, 50);
            Due.due("behind 0, less", c.ask("loudFor", 0, 0, 49), Due.NONE);
            Due.due("behind 0, just so", c.ask("loudFor", 0, 0, 50), 0);
            Due.due("behind 60, the greatest v", c.ask("loudFor", 0, 60, 99), 0);
            Due.due("behind 60", c.ask("loudFor", 0, 60, 49), Due.NONE);
            c.ask("figure", 0, 9);
            Due.due("behind 60, as loud as can be", c.ask("loudFor", 0, 60, 50), 9);
        }
        Calls eight = still("0", "w");
        for (int i = 0; i < 8; i++) {
            eight.ask("visitor", 10, 0, 1);
        }
        eight.ask("figure", 0, 6);
        Due.due("the first of eight", eight.ask("loudFor", 0, 1, 0), 6);
        Due.due("the last of eight", eight.ask("loudFor", 7, 1, 0), 6);
    }

    private static void everyFor() {
        Due.says("T3", "EVERY for one, n (0 to 60): that (1 to 12) with which LEAN is least behind n YEARS; of several the least.");
        Calls c = still("0", "9-w");
        c.ask("visitor", 10, 1, 7);
        c.ask("figure", 0, 9);
        Due.due("behind 0", c.ask("everyFor", 0, 0), 1);
        Due.due("behind 1: all come in the year 0", c.ask("everyFor", 0, 1), 1);
        Due.due("behind 2", c.ask("everyFor", 0, 2), 2);
        Due.due("behind 3", c.ask("everyFor", 0, 3), 3);
        Due.due("behind 12: all but 12 come again", c.ask("everyFor", 0, 12), 12);
        Due.due("EVERY stays", c.ask("ofVisitor", 0, 3), 7);
        c.ask("years", 1);
        c.ask("figure", 0, 9);
        Due.due("in the year 1, behind 11", c.ask("everyFor", 0, 11), 12);
        Due.due("in the year 1, behind 10", c.ask("everyFor", 0, 10), 11);
        c.read(1, "w");
        Due.due("the oftenest", c.ask("everyFor", 0, 11), 1);
        c.ask("figure", 1, 99);
        Due.due("of several the least, LEAN being as great as can be", c.ask("everyFor", 0, 60), 1);
        c.read(1, "w<9");
        c.ask("figure", 0, 9);
        Due.due("LEAN 99 by each", c.ask("everyFor", 0, 1), 1);
        c.ask("figure", 1, 98);
        Due.due("LEAN 98 but by 1", c.ask("everyFor", 0, 1), 2);
        c.ask("figure", 1, 0);
        c.read(1, "0");
        Due.due("of several the least", c.ask("everyFor", 0, 60), 1);
        c.ask("become", 0, 20);
        c.read(1, "w");
        Due.due("a PIGEON comes by rain alone", c.ask("everyFor", 0, 60), 1);
    }

    private static void needless() {
        Due.says("T3", "NEEDLESS by n (0 to 60): VISITORS without each of whom alone (the others keep their numbers) LEAN is no more behind n YEARS, as a set.");
        Calls c = still("0", "w");
        c.ask("figure", 0, 9);
        Due.due("no VISITORS", c.ask("needless", 0), 0);
        Due.due("no VISITORS", c.ask("needless", 60), 0);
        for (int i = 0; i < 8; i++) {
            c.ask("visitor", 10, 0, 1);
            Due.due("behind 0", c.ask("needless", 0), (1 << i + 1) - 1);
        }
        Due.due("not loud", c.ask("needless", 60), 255);
        for (int i = 0; i < 8; i++) {
            c.ask("change", i, 0, 1);
        }
        Due.due("WANT 9 and eight that keep 1", c.ask("needless", 1), 0);
        c.ask("figure", 0, 8);
        Due.due("WANT 8 and eight that keep 1", c.ask("needless", 1), 0);
        c.ask("figure", 0, 7);
        Due.due("WANT 7 and eight that keep 1", c.ask("needless", 1), 255);
        c.ask("change", 7, 0, 2);
        Due.due("and one that keeps 2", c.ask("needless", 1), 255);
        c.ask("figure", 0, 8);
        Due.due("WANT 8: but for the last", c.ask("needless", 1), 127);
        c.ask("figure", 1, 99);
        Due.due("LEAN can't be more", c.ask("needless", 60), 255);
        c.ask("figure", 1, 98);
        c.ask("figure", 0, 9);
        Due.due("LEAN can be", c.ask("needless", 1), 0);
        Due.due("all stay", c.ask("count", 0), 8);
        c.ask("figure", 1, 0);
        c.read(1, "9-w");
        Due.due("LEAN is less without each", c.ask("needless", 1), 255);
        Calls g = still("0", "w/7");
        g.ask("visitor", 60, 9, 1);
        g.ask("visitor", 10, 1, 1);
        g.ask("years", 1);
        g.ask("figure", 1, 0);
        g.ask("figure", 0, 61);
        Due.due("the others keep their numbers, and their order", g.ask("needless", 1), 3);
    }

    private static void wanted() {
        for (int bits : BITS) {
            Due.says("T3", "WANTED: a SHEET tells LEAN behind 1, 2, .. YEARS: by which WANT (0 to 99) now that is so: how many; the least.");
            Calls c = still("0", "w=50");
            c.ask("sheet", 3, bits, 0);
            Due.due("by 0 numbers, how many", c.ask("wanted", 3, 0), 100);
            Due.due("by 0 numbers, the least", c.ask("wanted", 3, 1), 0);
            c.fill(3, bits, 1);
            Due.due("one", c.ask("wanted", 3, 0), 1);
            Due.due("one", c.ask("wanted", 3, 1), 50);
            c.fill(3, bits, 0);
            Due.due("all but one", c.ask("wanted", 3, 0), 99);
            Due.due("all but one", c.ask("wanted", 3, 1), 0);
            c.read(1, "w=0");
            Due.due("all but the first", c.ask("wanted", 3, 1), 1);
            c.fill(3, bits, 1);
            Due.due("the first alone", c.ask("wanted", 3, 0), 1);
            Due.due("the first alone", c.ask("wanted", 3, 1), 0);
            c.read(1, "w=99");
            Due.due("the last alone", c.ask("wanted", 3, 0), 1);
            Due.due("the last alone", c.ask("wanted", 3, 1), 99);
            c.fill(3, bits, 1, 1);
            Due.due("none, how many", c.ask("wanted", 3, 0), 0);
            Due.due("none, the least", c.ask("wanted", 3, 1), Due.NONE);
            c.fill(3, bits, -1);
            Due.due("below 0", c.ask("wanted", 3, 0), 0);
            c.fill(3, bits, 100);
            Due.due("above 99", c.ask("wanted", 3, 0), 0);
            c.ask("figure", 1, 99);
            c.fill(3, bits, 99, 99, 99);
            Due.due("LEAN as great as can be", c.ask("wanted", 3, 0), 100);
            c.ask("sheet", 3, 0, 0);
            Due.due("missing, how many", c.ask("wanted", 3, 0), Due.NONE);
            Due.due("missing, the least", c.ask("wanted", 3, 1), Due.NONE);
        }
    }

    private static void wantedByForty() {
        Due.says("T4", "at most 40 numbers");
        for (int bits : BITS) {
            Calls c = still("0", "1+(w=50)");
            c.ask("sheet", 0, bits, 40);
            for (int i = 0; i < 40; i++) {
                c.ask("put", 0, i, 2 * i + 2);
            }
            Due.due("one by 40", c.ask("wanted", 0, 0), 1);
            Due.due("one by 40", c.ask("wanted", 0, 1), 50);
            c.ask("put", 0, 39, 79);
            Due.due("none by the last", c.ask("wanted", 0, 0), 0);
            c.ask("put", 0, 39, 80);
            c.ask("put", 0, 0, 1);
            Due.due("none by the first", c.ask("wanted", 0, 0), 0);
        }
    }

    private static void which() {
        for (int bits : BITS) {
            Due.says("T3", "WHICH: likewise: the KINDS (0 to 6; m as it is) by which, were one of that, as a set.");
            Calls c = still("0", "w%10");
            for (int i = 0; i < 8; i++) {
                c.ask("visitor", 0, 0, 1);
            }
            c.ask("figure", 0, 40);
            c.ask("sheet", 3, bits, 0);
            Due.due("by 0 numbers", c.ask("which", 3, 0), 127);
            Due.due("by 0 numbers, the last", c.ask("which", 3, 7), 127);
            c.fill(3, bits, 0);
            Due.due("not loud, m 0", c.ask("which", 3, 7), 127 - (1 << 2) - (1 << 5));
            c.fill(3, bits, 9);
            Due.due("a PIGEON", c.ask("which", 3, 7), 1 << 2);
            c.fill(3, bits, 8);
            Due.due("a DOVE", c.ask("which", 3, 7), 1 << 5);
            c.ask("become", 7, 59);
            c.fill(3, bits, 7);
            Due.due("m as it is", c.ask("which", 3, 7), 1 << 3);
            c.fill(3, bits, 4);
            Due.due("m as it is", c.ask("which", 3, 7), 1 << 6);
            c.fill(3, bits, 5);
            Due.due("none", c.ask("which", 3, 7), 0);
            Due.due("the KIND stays", c.ask("ofVisitor", 7, 0), 5);
            Due.due("m stays", c.ask("ofVisitor", 7, 1), 9);
            c.ask("sheet", 3, 0, 0);
            Due.due("missing", c.ask("which", 3, 7), Due.NONE);
        }
    }

    private static void whichByForty() {
        Due.says("T4", "at most 40 numbers");
        for (int bits : BITS) {
            Calls c = still("0", "1+(w>5)");
            c.ask("visitor", 0, 0, 1);
            c.ask("figure", 0, 45);
            c.ask("sheet", 0, bits, 40);
            for (int i = 0; i < 40; i++) {
                c.ask("put", 0, i, 2 * i + 2);
            }
            Due.due("all but DOVE and PIGEON by 40", c.ask("which", 0, 0), 127 - (1 << 5) - (1 << 2));
            c.ask("put", 0, 39, 79);
            Due.due("a PIGEON by the last", c.ask("which", 0, 0), 1 << 2);
            c.ask("put", 0, 39, 81);
            Due.due("none by the last", c.ask("which", 0, 0), 0);
        }
    }

    private static void askedBeyondTheLastYear() {
        Due.says("T3", "(All this is only thought, YEAR beyond 9999, too.)");
        Calls c = States.ofYear(LAST, "0", "w");
        c.ask("visitor", 10, 9, 10);
        c.ask("figure", 0, 9);
        Due.due("loudFor: it comes in 10000", c.ask("loudFor", 0, 2, 9), 9);
        Due.due("loudFor: not in 9999", c.ask("loudFor", 0, 1, 8), Due.NONE);
        Due.due("needless in 9999", c.ask("needless", 1), 1);
        Due.due("not in 10000", c.ask("needless", 2), 0);
        c.read(1, "w/10");
        Due.due("odds: 0, 1, 3, ..", c.ask("odds", 2, 1, 0), 1);
        Due.due("odds: 0, 1, 3, ..", c.ask("odds", 2, 1, 1), 5);
        c.read(1, "w=5");
        c.fill(0, 8, 0, 1);
        Due.due("wanted: one", c.ask("wanted", 0, 0), 1);
        Due.due("wanted: one", c.ask("wanted", 0, 1), 14);
        c.read(1, "9-w");
        int[] every = {1, 2, 6, 6, 7, 12, 12, 12, 12, 12};
        for (int n = 0; n < every.length; n++) {
            Due.due("every: none but that comes in none of " + n, c.ask("everyFor", 0, n), every[n]);
        }
        c.read(1, "w");
        c.ask("change", 0, 0, 6);
        int[][] told = {{9, 18}, {9, 15}, {8, 15}, {9, 12}, {9, 16}};
        int[] kinds = {1 << 6, 1 | 1 << 3, 1 << 2, 1 << 1 | 1 << 4, 1 << 5};
        for (int i = 0; i < told.length; i++) {
            c.fill(0, 16, told[i]);
            Due.due("which, by " + told[i][0] + ", " + told[i][1], c.ask("which", 0, 0), kinds[i]);
        }
        c.ask("tell", 9);
        c.ask("tell", 12);
        c.ask("become", 0, 10);
        Due.due("check", c.ask("check"), 0);
        Due.due("YEAR stays", c.ask("count", 1), 9999);
    }

    private static void bear(Calls c, int bears, int tall) {
        for (int s = 0; s < 10; s++) {
            c.ask("step", s, 0, tall < 0 ? s : tall);
            c.ask("step", s, 1, bears);
        }
    }

    private static void dueStair(Calls c, int high, int set) {
        c.ask("figure", 3, high);
        Due.due("the set, HIGH " + high, c.ask("stair", 0), set);
        Due.due("how many, HIGH " + high, c.ask("stair", 1), set < 0 ? Due.NONE : Integer.bitCount(set));
    }

    private static void stair() {
        Due.says("T3", "STAIR: the fewest GOOD STEPS whose TALL is HIGH or more together, as a set; of several the least; how many.");
        Calls c = new Calls();
        dueStair(c, 0, 0);
        dueStair(c, 1, 1 << 1);
        dueStair(c, 9, 1 << 9);
        dueStair(c, 10, 1 << 4 | 1 << 6);
        dueStair(c, 17, 1 << 9 | 1 << 8);
        dueStair(c, 18, 1 << 5 | 1 << 6 | 1 << 7);
        dueStair(c, 44, 1023 - 3);
        dueStair(c, 45, 1023 - 1);
        dueStair(c, 46, Due.NONE);
        dueStair(c, 60, Due.NONE);
        bear(c, 50, 9);
        dueStair(c, 0, 0);
        dueStair(c, 9, 1);
        dueStair(c, 10, 3);
        dueStair(c, 54, 63);
        dueStair(c, 55, 127);
        dueStair(c, 60, 127);
        bear(c, 50, 6);
        dueStair(c, 60, 1023);
        c.ask("step", 9, 0, 5);
        dueStair(c, 60, Due.NONE);
        dueStair(c, 59, 1023);
        bear(c, 39, 9);
        dueStair(c, 0, 0);
        dueStair(c, 1, Due.NONE);
        c.ask("step", 9, 1, 40);
        dueStair(c, 1, 1 << 9);
        dueStair(c, 10, Due.NONE);
        bear(c, 50, 0);
        dueStair(c, 0, 0);
        dueStair(c, 1, Due.NONE);
    }

    private static void dueExact(Calls c, int high, int sets) {
        c.ask("figure", 3, high);
        Due.due("HIGH " + high, c.ask("exact"), sets);
    }

    private static void exact() {
        Due.says("T3", "EXACT: how many sets of GOOD STEPS (that of none, too) have TALL of just HIGH together.");
        Calls c = new Calls();
        dueExact(c, 0, 2);
        dueExact(c, 1, 2);
        dueExact(c, 44, 2);
        dueExact(c, 45, 2);
        dueExact(c, 46, 0);
        dueExact(c, 60, 0);
        bear(c, 39, -1);
        dueExact(c, 0, 1);
        dueExact(c, 1, 0);
        bear(c, 40, 0);
        dueExact(c, 0, 1024);
        dueExact(c, 1, 0);
        bear(c, 40, 1);
        dueExact(c, 0, 1);
        dueExact(c, 5, 252);
        dueExact(c, 10, 1);
        dueExact(c, 11, 0);
        bear(c, 40, 6);
        dueExact(c, 60, 1);
        dueExact(c, 59, 0);
        bear(c, 40, 9);
        dueExact(c, 54, 210);
        dueExact(c, 60, 0);
    }

    private static void dueHouse(Calls c, int many, int first, int... told) {
        for (int bits : BITS) {
            c.fill(0, bits, told);
            String by = " by " + java.util.Arrays.toString(told) + " of " + bits;
            Due.due("how many" + by, c.ask("house", 0, 0), many);
            Due.due("the first" + by, c.ask("house", 0, 1), first);
        }
    }

    private static void houseByNumbers() {
        Due.says("T3", "HOUSE: .. how many CELLS there are (none, if it tells more than three), the first.");
        Calls c = new Calls();
        dueHouse(c, 64, 0);
        dueHouse(c, 64, 0, 0);
        dueHouse(c, 64, 0, 0, 0);
        dueHouse(c, 64, 0, 0, 0, 0);
        dueHouse(c, 0, Due.NONE, 0, 0, 0, 0);
        dueHouse(c, 0, Due.NONE, 1);
        dueHouse(c, 0, Due.NONE, -1);
        dueHouse(c, 0, Due.NONE, 0, 1);
        dueHouse(c, 0, Due.NONE, 0, 0, 1);
        dueHouse(c, 0, Due.NONE, new int[40]);
        c.ask("sheet", 0, 0, 0);
        Due.due("missing, how many", c.ask("house", 0, 0), Due.NONE);
        Due.due("missing, the first", c.ask("house", 0, 1), Due.NONE);
    }

    private static void houseAtTheEdges() {
        Due.says("T3", "2 in the CELLS next to it (8 at most, over corners, too; not its own)");
        Calls all = new Calls();
        for (int row = 0; row < 8; row++) {
            all.ask("trees", row, 255);
        }
        dueHouse(all, 64, 0, 8);
        dueHouse(all, 0, Due.NONE, 7);
        dueHouse(all, 0, Due.NONE, 9);
        dueHouse(all, 64, 0, 8, 8);
        dueHouse(all, 0, Due.NONE, 8, 7);
        dueHouse(all, 36, 9, 8, 8, 8);
        dueHouse(all, 24, 1, 8, 8, 5);
        dueHouse(all, 4, 0, 8, 8, 3);
        dueHouse(all, 0, Due.NONE, 8, 8, 9);
        Due.says("T1", "CELL 0 to 63: 8 times the row, and the place.");
        Calls last = new Calls();
        last.ask("trees", 7, 128);
        dueHouse(last, 1, 63, 1, 1);
        dueHouse(last, 1, 63, 1, 1, 0);
        dueHouse(last, 1, 62, 1, 0, 1);
        dueHouse(last, 1, 55, 0, 1, 1);
        dueHouse(last, 1, 54, 0, 0, 1);
        dueHouse(last, 49 - 1, 0, 0, 0, 0);
        Calls first = new Calls();
        first.ask("trees", 0, 1);
        dueHouse(first, 1, 0, 1, 1);
        dueHouse(first, 1, 1, 1, 0, 1);
        dueHouse(first, 1, 8, 0, 1, 1);
        dueHouse(first, 1, 9, 0, 0, 1);
        Due.says("T3", "2 in the CELLS next to it");
        // None of these is over the edge of a row.
        Calls edge = new Calls();
        edge.ask("trees", 3, 128);
        dueHouse(edge, 2, 22, 0, 0, 1);
        dueHouse(edge, 2, 23, 0, 1, 1);
        dueHouse(edge, 1, 30, 1, 0, 1);
        dueHouse(edge, 1, 31, 1, 1, 0);
        edge.ask("trees", 3, 1);
        dueHouse(edge, 2, 17, 0, 0, 1);
        dueHouse(edge, 2, 16, 0, 1, 1);
        dueHouse(edge, 1, 25, 1, 0, 1);
        dueHouse(edge, 1, 24, 1, 1, 0);
    }

    private static void power() {
        Due.says("T3", "POWER of one: in how many orders of all VISITORS one is the first with whom LOUD of those so far together is more than half of that of all.");
        Calls c = new Calls();
        c.ask("visitor", 0, 0, 1);
        Due.due("one, not loud", c.ask("power", 0), 0);
        c.ask("change", 0, 0, 1);
        Due.due("one", c.ask("power", 0), 1);
        c.ask("visitor", 0, 1, 1);
        Due.due("just half", c.ask("power", 0), 1);
        Due.due("just half", c.ask("power", 1), 1);
        c.ask("change", 1, 0, 2);
        Due.due("less than half", c.ask("power", 0), 0);
        Due.due("more than half", c.ask("power", 1), 2);
        c.ask("change", 1, 0, 0);
        Due.due("all", c.ask("power", 0), 2);
        Due.due("none", c.ask("power", 1), 0);
        for (int i = 2; i < 8; i++) {
            c.ask("visitor", 0, 0, 1);
        }
        Due.due("all of eight", c.ask("power", 0), 40320);
        Due.due("none of eight", c.ask("power", 7), 0);
        c.ask("change", 0, 0, 0);
        for (int i = 0; i < 8; i++) {
            Due.due("none is loud", c.ask("power", i), 0);
        }
        for (int i = 0; i < 8; i++) {
            c.ask("change", i, 0, 9);
        }
        for (int i = 0; i < 8; i++) {
            Due.due("the fifth of eight alike", c.ask("power", i), 5040);
        }
    }

    private static void gait() {
        Due.says("T3", "GAIT of n (0 to 12): .. none falling between, nor at first: it falls, if more than two are up, or both 0 and 1, or both 2 and 3.");
        int[] twice = {4, 3, 3, 0, 3, 2, 2, 0, 3, 2, 2, 0, 0, 0, 0, 0};
        Calls c = new Calls();
        for (int feet = 0; feet < 16; feet++) {
            c.ask("figure", 4, feet);
            Due.due("of 0, FEET " + feet, c.ask("gait", 0), twice[feet] > 0 ? 1 : 0);
            Due.due("of 1, FEET " + feet, c.ask("gait", 1), 0);
            Due.due("of 2, FEET " + feet, c.ask("gait", 2), twice[feet]);
            Due.due("of 11, FEET " + feet, c.ask("gait", 11), 0);
            Due.due("of 12, FEET " + feet, c.ask("gait", 12), waysBack(feet, feet, 12));
        }
    }

    private static int waysBack(int feet, int to, int n) {
        boolean falls = Integer.bitCount(feet) > 2 || (feet & 3) == 3 || (feet & 12) == 12;
        if (falls || n == 0) {
            return !falls && feet == to ? 1 : 0;
        }
        int ways = 0;
        for (int foot = 1; foot < 16; foot *= 2) {
            ways += waysBack(feet ^ foot, to, n - 1);
        }
        return ways;
    }

    private static void odds() {
        Due.says("T3", "ODDS by n (0 to 30), v (0 to 99): .. WANT being 0, 10, .. 90 now .. a fraction in lowest terms (0 is 0 by 1).");
        for (int year : new int[] {0, LAST}) {
            Calls c = States.ofYear(year, "0", "w/10");
            c.ask("figure", 1, 1);
            int[][] by = {{0, 0, 0, 1}, {0, 1, 1, 1}, {0, 99, 1, 1}, {1, 0, 0, 1}, {1, 1, 1, 10}, {1, 2, 1, 5}, {1, 3, 3, 10},
                {1, 4, 2, 5}, {1, 5, 1, 2}, {1, 6, 3, 5}, {1, 7, 7, 10}, {1, 8, 4, 5}, {1, 9, 9, 10}, {1, 10, 1, 1},
                {30, 0, 0, 1}, {30, 1, 1, 10}, {30, 30, 1, 10}, {30, 31, 1, 5}, {30, 61, 3, 10}, {30, 98, 2, 5},
                {30, 99, 1, 1}};
            for (int[] b : by) {
                Due.due("above, odds(" + b[0] + ", " + b[1] + ")", c.ask("odds", b[0], b[1], 0), b[2]);
                Due.due("below, odds(" + b[0] + ", " + b[1] + ")", c.ask("odds", b[0], b[1], 1), b[3]);
            }
            c.read(1, "w%10+w/91");
            Due.due("by tens alone, to 90", c.ask("odds", 1, 1, 1), 1);
            Due.due("by tens alone, to 90", c.ask("odds", 1, 0, 0), 0);
            c.ask("figure", 0, 55);
            Due.due("whatever WANT is now", c.ask("odds", 1, 1, 1), 1);
        }
    }
}
