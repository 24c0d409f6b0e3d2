/** The edges of part 1 of the Terms, and of promises 1 to 13, 17 and 18: seasons, the figure, visitors, YEARS, draws. */
public final class YearEdgeTests {
    private static final int LEAST = Integer.MIN_VALUE;
    private static final int MOST = Integer.MAX_VALUE;

    private YearEdgeTests() {
    }

    public static void main(String[] args) {
        atFirst();
        whatItWas();
        seasonsGoRound();
        eightVisitors();
        comesByEvery();
        comesByRain();
        comesByTheRestOfTen();
        keepsByLoudAndM();
        keepsByHeatAndWant();
        asOneOfAKindAbove();
        becomeKeepsTheRest();
        wantIsHeld();
        visitorsByNumbers();
        wantAsItIsThen();
        leanIsHeld();
        shiftsByWantBehind();
        hatIsHeld();
        weightAndGood();
        treesFromNoneToAll();
        yearByYear();
        nearTheLastYear();
        drawsNearTheLastYear();
        drawsGoRound();
        rainOfADraw();
        Due.end("YearEdgeTests");
    }

    /** So that WANT, LEAN are more by these alone. */
    private static Calls still(String yearns, String shifts) {
        Calls c = new Calls();
        c.read(0, yearns);
        c.read(1, shifts);
        return c;
    }

    private static void atFirst() {
        Due.says("P1", "All as at first; no VISITORS.");
        Calls c = new Calls();
        int[] counts = {0, 0, 10, 0, 0, 0, 0, 0, 0, 0, 1};
        for (int what = 0; what < counts.length; what++) {
            Due.due("count " + what, c.ask("count", what), counts[what]);
        }
        for (int s = 0; s < 6; s++) {
            Due.due("HEAT of " + s, c.ask("ofSeason", s, 0), 3);
            Due.due("RAIN of " + s, c.ask("ofSeason", s, 1), s);
        }
        for (int s = 0; s < 10; s++) {
            Due.due("TALL of " + s, c.ask("ofStep", s, 0), s);
            Due.due("BEARS of " + s, c.ask("ofStep", s, 1), 50);
        }
        for (int row = 0; row < 8; row++) {
            Due.due("TREES of " + row, c.ask("trees", row, 0), 0);
        }
        for (int sheet = 0; sheet < 4; sheet++) {
            Due.due("missing: " + sheet, c.ask("judge", sheet), Due.NONE);
        }
        Due.due("HIGH", c.ask("ofFigure", 3), 20);
        Due.due("FEET", c.ask("ofFigure", 4), 1);
        Due.due("no TEXT", c.ask("text", 0), -10);
        Due.due("no IMAGE", c.ask("restore"), Due.NONE);
        Due.due("none waits", c.ask("check"), 0);
    }

    private static void whatItWas() {
        Due.says("T1", "HEAT (0 to 9; 3 at first), RAIN (0 to 9; at first its number)");
        Calls c = new Calls();
        for (int s = 0; s < 6; s++) {
            for (int what = 0; what < 2; what++) {
                Due.due("to 9", c.ask("season", s, what, 9), what == 0 ? 3 : s);
                Due.due("to 0", c.ask("season", s, what, 0), 9);
                Due.due("is 0", c.ask("ofSeason", s, what), 0);
                Due.due("to 1", c.ask("season", s, what, s), 0);
            }
        }
        for (int s = 0; s < 6; s++) {
            Due.due("each its own HEAT", c.ask("ofSeason", s, 0), s);
            Due.due("each its own RAIN", c.ask("ofSeason", s, 1), s);
        }
        Due.says("T1", "STEPS 0 to 9, each TALL (0 to 9; at first its number), BEARS (0 to 99; 50 at first).");
        for (int s = 0; s < 10; s++) {
            Due.due("TALL to 9", c.ask("step", s, 0, 9), s);
            Due.due("TALL to 0", c.ask("step", s, 0, 0), 9);
            Due.due("BEARS to 99", c.ask("step", s, 1, 99), 50);
            Due.due("BEARS to 0", c.ask("step", s, 1, 0), 99);
            Due.due("TALL", c.ask("step", s, 0, 9 - s), 0);
        }
        for (int s = 0; s < 10; s++) {
            Due.due("each its own TALL", c.ask("ofStep", s, 0), 9 - s);
            Due.due("each its own BEARS", c.ask("ofStep", s, 1), 0);
        }
        Due.says("P4", "WANT (what 0), LEAN (1), HAT (2), HIGH (3), FEET (4) become v: what they were.");
        int[] most = {99, 99, 99, 60, 15};
        int[] first = {10, 0, 0, 20, 1};
        for (int what = 0; what < 5; what++) {
            Due.due("to the greatest", c.ask("figure", what, most[what]), first[what]);
            Due.due("of the greatest", c.ask("ofFigure", what), most[what]);
            Due.due("to the least", c.ask("figure", what, 0), most[what]);
            Due.due("of the least", c.ask("ofFigure", what), 0);
        }
    }

    private static void seasonsGoRound() {
        Due.says("T1", "SEASONS 0 .. 5 (that of a YEAR is its rest by 6)");
        Calls c = new Calls();
        for (int s = 0; s < 6; s++) {
            c.ask("season", s, 0, s + 2);
            c.ask("season", s, 1, s + 4);
        }
        for (int year = 0; year < 14; year++) {
            int s = year % 6;
            Due.due("HEAT in the year " + year, c.ask("ofFigure", 6), s + 2);
            c.ask("figure", 2, 50);
            c.ask("years", 1);
            Due.due("HAT behind the year " + year, c.ask("count", 4), 50 - (s + 2) + s + 4);
        }
        Calls last = States.of(States.LAST);
        last.ask("season", 3, 0, 7);
        Due.due("HEAT in the year 9999", last.ask("ofFigure", 6), 7);
    }

    private static void eightVisitors() {
        Due.says("T1", "VISITORS 0, 1, .. (at most 8)");
        Calls c = new Calls();
        Due.due("none yet", c.ask("ofVisitor", 0, 0), Due.BEYOND);
        for (int i = 0; i < 8; i++) {
            Due.due("the next is none", c.ask("ofVisitor", i, 0), Due.BEYOND);
            Due.due("number", c.ask("visitor", 60 + i, 9 - i, 12 - i), i);
            Due.due("so many", c.ask("count", 0), i + 1);
        }
        Due.due("a ninth", c.ask("visitor", 0, 0, 1), Due.FULL);
        Due.due("so many", c.ask("count", 0), 8);
        for (int i = 0; i < 8; i++) {
            Due.due("m", c.ask("ofVisitor", i, 1), i);
            Due.due("LOUD", c.ask("ofVisitor", i, 2), 9 - i);
            Due.due("EVERY", c.ask("ofVisitor", i, 3), 12 - i);
        }
        Due.due("LOUD of all together", c.ask("count", 5), 9 + 8 + 7 + 6 + 5 + 4 + 3 + 2);
    }

    private static void comesByEvery() {
        Due.says("T1", "VISITOR: if the rest of YEAR by EVERY is 0.");
        int[] kinds = {0, 1, 3, 4, 5};
        Calls c = new Calls();
        for (int s = 0; s < 6; s++) {
            c.ask("season", s, 1, 0);
        }
        for (int i = 0; i < 5; i++) {
            c.ask("visitor", 10 * kinds[i], 1, 12);
        }
        c.ask("visitor", 0, 1, 1);
        c.ask("visitor", 0, 1, 11);
        for (int year = 0; year <= 24; year++) {
            for (int i = 0; i < 5; i++) {
                Due.due("every 12, " + kinds[i] + " in " + year, c.ask("ofVisitor", i, 4), year % 12 == 0 ? 1 : 0);
            }
            Due.due("every 1 in " + year, c.ask("ofVisitor", 5, 4), 1);
            Due.due("every 11 in " + year, c.ask("ofVisitor", 6, 4), year % 11 == 0 ? 1 : 0);
            c.ask("years", 1);
        }
        Calls last = States.of(States.LAST);
        Due.due("every 5 in 9999", last.ask("ofVisitor", 0, 4), 0);
        last.ask("change", 0, 1, 11);
        Due.due("every 11 in 9999", last.ask("ofVisitor", 0, 4), 1);
    }

    private static void comesByRain() {
        int[] rains = {0, 4, 5, 6, 7, 9};
        int[] pigeon = {1, 1, 0, 0, 0, 0};
        int[] band = {1, 1, 1, 1, 0, 0};
        Calls c = new Calls();
        c.ask("visitor", 20, 1, 12);
        c.ask("visitor", 40, 1, 1);
        c.ask("visitor", 40, 1, 12);
        c.ask("visitor", 50, 1, 1);
        c.ask("visitor", 50, 1, 12);
        for (int year = 0; year < 2; year++) {
            for (int i = 0; i < rains.length; i++) {
                c.ask("season", year, 1, rains[i]);
                String when = "by RAIN " + rains[i] + " in the year " + year;
                int due = year == 0 ? 1 : 0;
                Due.says("T1", "PIGEON: if r is below 5.");
                Due.due(when, c.ask("ofVisitor", 0, 4), pigeon[i]);
                Due.says("T1", "BAND: as PARADE, but not, if r is above 6.");
                Due.due(when, c.ask("ofVisitor", 1, 4), band[i]);
                Due.due("every 12, " + when, c.ask("ofVisitor", 2, 4), due * band[i]);
                Due.says("T1", "DOVE: as PIGEON, but not, if the rest of YEAR by EVERY isn't 0.");
                Due.due(when, c.ask("ofVisitor", 3, 4), pigeon[i]);
                Due.due("every 12, " + when, c.ask("ofVisitor", 4, 4), due * pigeon[i]);
            }
            c.ask("years", 1);
        }
    }

    private static void comesByTheRestOfTen() {
        Due.says("T1", "GENERAL: as TALKER, but not, if the rest of YEAR by 10 is m.");
        Calls c = new Calls();
        int[] ms = {0, 1, 8, 9};
        for (int m : ms) {
            c.ask("visitor", 60 + m, 1, 1);
        }
        c.ask("visitor", 60, 1, 10);
        c.ask("visitor", 61, 1, 10);
        for (int year = 0; year <= 21; year++) {
            for (int i = 0; i < 4; i++) {
                Due.due("m " + ms[i] + " in " + year, c.ask("ofVisitor", i, 4), year % 10 == ms[i] ? 0 : 1);
            }
            Due.due("every 10, m 0, in " + year, c.ask("ofVisitor", 4, 4), 0);
            Due.due("every 10, m 1, in " + year, c.ask("ofVisitor", 5, 4), year % 10 == 0 ? 1 : 0);
            c.ask("years", 1);
        }
        Due.due("m 9 in 9999", States.of(States.LAST).ask("ofVisitor", 1, 4), 0);
        Calls last = States.of(States.LAST);
        last.ask("become", 1, 60);
        Due.due("m 0 in 9999", last.ask("ofVisitor", 1, 4), 1);
    }

    private static void keepsByLoudAndM() {
        int[] half = {0, 0, 1, 1, 2, 2, 3, 3, 4, 4};
        int[] third = {0, 0, 0, 1, 1, 1, 2, 2, 2, 3};
        for (int loud = 0; loud <= 9; loud++) {
            Calls c = new Calls();
            c.ask("visitor", 0, loud, 1);
            int[] of = {half[loud], loud, 1, -1, loud, 2};
            for (int kind = 0; kind < 6; kind++) {
                Due.says("T1", "VISITOR: half (cut) of LOUD. PARADE: LOUD. PIGEON: 1. .. DOVE: twice as PIGEON.");
                c.ask("become", 0, 10 * kind + 7);
                Due.due(kind + " of LOUD " + loud, c.ask("ofVisitor", 0, 5), kind == 3 ? half[loud] + 2 : of[kind]);
            }
            for (int m = 0; m <= 9; m++) {
                Due.says("T1", "TALKER: as VISITOR, and a third (cut) of m.");
                c.ask("become", 0, 30 + m);
                Due.due("m " + m, c.ask("ofVisitor", 0, 5), half[loud] + third[m]);
                Due.says("T1", "GENERAL: 0, if w is above 60, else twice as TALKER.");
                c.ask("become", 0, 60 + m);
                Due.due("m " + m, c.ask("ofVisitor", 0, 5), 2 * (half[loud] + third[m]));
            }
        }
    }

    private static void keepsByHeatAndWant() {
        Calls c = new Calls();
        c.ask("visitor", 49, 9, 1);
        c.ask("visitor", 69, 9, 1);
        Due.says("T1", "BAND: as PARADE, and 2, if h is above 5.");
        for (int h = 0; h <= 9; h++) {
            c.ask("season", 0, 0, h);
            Due.due("by HEAT " + h, c.ask("ofVisitor", 0, 5), h > 5 ? 11 : 9);
        }
        Due.says("T1", "GENERAL: 0, if w is above 60, else twice as TALKER.");
        for (int w : new int[] {0, 1, 59, 60, 61, 62, 99}) {
            c.ask("figure", 0, w);
            Due.due("by WANT " + w, c.ask("ofVisitor", 1, 5), w > 60 ? 0 : 14);
        }
    }

    private static void asOneOfAKindAbove() {
        Due.says("P13", "A VISITOR as one of a KIND: m. BEYOND. KIND: it isn't of that KIND, nor of one under it.");
        int[] under = {127, 1 << 1 | 1 << 4, 1 << 2 | 1 << 5, 1 << 3 | 1 << 6, 1 << 4, 1 << 5, 1 << 6};
        Calls c = new Calls();
        c.ask("visitor", 0, 1, 1);
        for (int kind = 0; kind < 7; kind++) {
            for (int m = 0; m <= 9; m += 9) {
                c.ask("become", 0, 10 * kind + m);
                for (int as = 0; as < 7; as++) {
                    boolean so = (under[as] >> kind & 1) == 1;
                    Due.due("a " + kind + " as a " + as, c.ask("as", 0, as), so ? m : Due.KIND);
                }
            }
        }
    }

    private static void becomeKeepsTheRest() {
        Due.says("P12", "A VISITOR becomes one of a KIND, with m (km): the KIND that it was.");
        Calls c = new Calls();
        c.ask("visitor", 69, 9, 12);
        int was = 6;
        for (int km = 0; km <= 69; km++) {
            Due.due("the KIND that it was", c.ask("become", 0, km), was);
            was = km / 10;
            Due.due("KIND of " + km, c.ask("ofVisitor", 0, 0), was);
            Due.due("m of " + km, c.ask("ofVisitor", 0, 1), km % 10);
        }
        Due.due("LOUD stays", c.ask("ofVisitor", 0, 2), 9);
        Due.due("EVERY stays", c.ask("ofVisitor", 0, 3), 12);
    }

    private static void wantIsHeld() {
        Due.says("T1", "(1) WANT is more by what the one TEXT gives (99 at most).");
        int[][] more = {{0, 0, 0}, {0, 20, 20}, {79, 20, 99}, {80, 20, 99}, {98, 1, 99}, {98, 2, 99}, {99, 0, 99},
            {99, 1, 99}, {99, 20, 99}};
        for (int[] m : more) {
            Calls c = still(String.valueOf(m[1]), "0");
            c.ask("figure", 0, m[0]);
            c.ask("years", 1);
            Due.due(m[0] + " by " + m[1], c.ask("count", 2), m[2]);
        }
        Due.says("T1", "(2) .. WANT is as much less as it KEEPS (0 at least)");
        int[][] less = {{0, 0, 0}, {0, 9, 0}, {8, 9, 0}, {9, 9, 0}, {10, 9, 1}, {99, 9, 90}, {99, 0, 99}};
        for (int[] l : less) {
            Calls c = still("0", "0");
            c.ask("visitor", 10, l[1], 1);
            c.ask("figure", 0, l[0]);
            c.ask("years", 1);
            Due.due(l[0] + " less " + l[1], c.ask("count", 2), l[2]);
        }
        Calls c = still("20", "0");
        c.ask("visitor", 10, 9, 1);
        c.ask("figure", 0, 99);
        c.ask("years", 1);
        Due.due("held at 99 ahead of (2)", c.ask("count", 2), 90);
        Calls eight = still("20", "0");
        for (int i = 0; i < 8; i++) {
            eight.ask("visitor", 10, 9, 1);
        }
        eight.ask("figure", 0, 52);
        eight.ask("years", 1);
        Due.due("by eight", eight.ask("count", 2), 0);
        eight.ask("figure", 0, 53);
        eight.ask("years", 1);
        Due.due("by eight", eight.ask("count", 2), 1);
    }

    private static void visitorsByNumbers() {
        Due.says("T1", "(2) VISITORS by numbers, each that COMES");
        Calls c = still("0", "0");
        c.ask("visitor", 60, 9, 1);
        c.ask("visitor", 10, 1, 1);
        c.ask("years", 1);
        c.ask("figure", 0, 61);
        c.ask("years", 1);
        Due.due("the GENERAL ahead of the PARADE", c.ask("count", 2), 60);
        Calls other = still("0", "0");
        other.ask("visitor", 10, 1, 1);
        other.ask("visitor", 60, 9, 1);
        other.ask("years", 1);
        other.ask("figure", 0, 61);
        other.ask("years", 1);
        Due.due("the PARADE ahead of the GENERAL", other.ask("count", 2), 60 - 8);
        other.ask("become", 0, 20);
        other.ask("season", 2, 1, 5);
        other.ask("figure", 0, 61);
        other.ask("years", 1);
        Due.due("a PIGEON that doesn't come ahead of the GENERAL", other.ask("count", 2), 61);
    }

    private static void wantAsItIsThen() {
        Due.says("T1", "(2) .. by WANT as it is then");
        int[][] by = {{60, 0, 52}, {61, 0, 61}, {60, 1, 61}, {59, 1, 52}, {99, 20, 99}};
        for (int[] b : by) {
            Calls c = still(String.valueOf(b[1]), "0");
            c.ask("visitor", 69, 3, 1);
            c.ask("figure", 0, b[0]);
            c.ask("years", 1);
            Due.due("WANT " + b[0] + ", more by " + b[1], c.ask("count", 2), b[2]);
        }
    }

    private static void leanIsHeld() {
        Due.says("T1", "(3) LEAN is more by what the other TEXT gives (99 at most).");
        int[][] more = {{0, 0, 0}, {0, 9, 9}, {89, 9, 98}, {90, 9, 99}, {91, 9, 99}, {98, 1, 99}, {98, 2, 99},
            {99, 0, 99}, {99, 1, 99}, {99, 9, 99}};
        for (int[] m : more) {
            Calls c = still("0", String.valueOf(m[1]));
            c.ask("figure", 1, m[0]);
            Due.due(m[0] + " by " + m[1], c.ask("years", 1), m[2]);
            Due.due(m[0] + " by " + m[1], c.ask("count", 3), m[2]);
        }
    }

    private static void shiftsByWantBehind() {
        Due.says("T2", "1 SHIFTS, NAMES w WANT (behind (2)), h HEAT of the SEASON, f HAT (as the YEAR began)");
        Calls c = still("3", "w");
        c.ask("visitor", 10, 9, 1);
        c.ask("figure", 0, 11);
        Due.due("w behind (1) and (2)", c.ask("years", 1), 11 + 3 - 9);
        Calls f = still("0", "f");
        f.ask("figure", 2, 7);
        f.ask("season", 0, 0, 9);
        f.ask("season", 0, 1, 9);
        Due.due("f ahead of (4)", f.ask("years", 1), 7);
        Due.due("f in the next", f.ask("years", 1), 7 + 9);
        Calls l = still("l", "5");
        l.ask("figure", 1, 6);
        l.ask("years", 1);
        Due.due("l ahead of (3)", l.ask("count", 2), 10 + 6);
        Due.says("P5", "7 what it SHIFTS, were WANT behind (2) as it is now");
        Calls now = still("3", "w");
        now.ask("visitor", 10, 9, 1);
        now.ask("figure", 0, 8);
        Due.due("as it is now", now.ask("ofFigure", 7), 8);
        now.ask("figure", 0, 0);
        Due.due("the least", now.ask("ofFigure", 7), 0);
        now.ask("figure", 0, 99);
        Due.due("the greatest", now.ask("ofFigure", 7), 9);
    }

    private static void hatIsHeld() {
        Due.says("T1", "(4) HAT is less by HEAT (0 at least), then more by RAIN (99 at most).");
        int[][] by = {{0, 0, 0, 0}, {0, 9, 0, 0}, {8, 9, 0, 0}, {9, 9, 0, 0}, {10, 9, 0, 1}, {0, 9, 9, 9}, {5, 9, 3, 3},
            {90, 0, 9, 99}, {91, 0, 9, 99}, {99, 0, 0, 99}, {99, 0, 9, 99}, {99, 9, 9, 99}, {99, 9, 8, 98}, {99, 1, 2, 99},
            {99, 9, 0, 90}};
        for (int[] b : by) {
            Calls c = new Calls();
            c.ask("figure", 2, b[0]);
            c.ask("season", 0, 0, b[1]);
            c.ask("season", 0, 1, b[2]);
            c.ask("years", 1);
            Due.due("HAT " + b[0] + " by HEAT " + b[1] + ", RAIN " + b[2], c.ask("count", 4), b[3]);
        }
    }

    private static void weightAndGood() {
        int[] hats = {0, 3, 4, 7, 8, 95, 96, 99};
        int[] weights = {40, 40, 41, 41, 42, 63, 64, 64};
        for (int i = 0; i < hats.length; i++) {
            Due.says("T1", "WEIGHT: 40 and a quarter (cut) of HAT.");
            Calls c = new Calls();
            c.ask("figure", 2, hats[i]);
            Due.due("of HAT " + hats[i], c.ask("ofFigure", 5), weights[i]);
            Due.says("T1", "GOOD: those that BEAR WEIGHT or more.");
            int[] bears = {0, weights[i] - 1, weights[i], weights[i] + 1, 99};
            for (int b = 0; b < bears.length; b++) {
                c.ask("step", 9, 1, bears[b]);
                Due.due("BEARS " + bears[b] + " at HAT " + hats[i], c.ask("ofStep", 9, 2), b >= 2 ? 1 : 0);
            }
        }
    }

    private static void treesFromNoneToAll() {
        Due.says("T1", "TREES: rows 0 to 7 of 8 CELLS each, a set (0 to 255; 0 at first)");
        Calls c = new Calls();
        for (int row = 0; row < 8; row++) {
            Due.due("none", c.ask("trees", row, 1 << row), 0);
            Due.due("one a row", c.ask("count", 6), row + 1);
        }
        for (int row = 0; row < 8; row++) {
            Due.due("one", c.ask("trees", row, 255), 1 << row);
        }
        Due.due("all", c.ask("count", 6), 64);
        for (int row = 0; row < 8; row++) {
            Due.due("eight", c.ask("trees", row, 0), 255);
        }
        Due.due("none", c.ask("count", 6), 0);
    }

    private static void yearByYear() {
        Due.says("P17", "n (1 to 60) YEARS: LEAN then.");
        Calls c = new Calls();
        Calls other = new Calls();
        for (Calls x : new Calls[] {c, other}) {
            x.ask("visitor", 13, 6, 2);
            x.ask("visitor", 64, 5, 1);
        }
        int lean = 0;
        for (int i = 0; i < 60; i++) {
            lean = c.ask("years", 1);
        }
        Due.due("60 as 60 times 1", other.ask("years", 60), lean);
        for (int what = 1; what <= 4; what++) {
            Due.due("count " + what, other.ask("count", what), c.ask("count", what));
        }
        Due.says("P18", "n (1 to 40) YEARS by draws: likewise.");
        for (int i = 0; i < 40; i++) {
            lean = c.ask("loose", 1);
        }
        Due.due("40 as 40 times 1", other.ask("loose", 40), lean);
        Due.due("z", other.ask("count", 10), c.ask("count", 10));
        Due.due("YEAR", c.ask("count", 1), 100);
    }

    private static void nearTheLastYear() {
        Due.says("P17", "STATE: YEAR would be above 9999.");
        for (int left : new int[] {0, 1, 2, 59}) {
            Calls c = States.ofYear(9999 - left);
            Due.due("YEAR", c.ask("count", 1), 9999 - left);
            Due.due("one more", c.ask("years", left + 1), Due.STATE);
            Due.due("60", c.ask("years", 60), Due.STATE);
            Due.due("61", c.ask("years", 61), Due.BEYOND);
            Due.due("0", c.ask("years", 0), Due.BEYOND);
            Due.due("YEAR stays", c.ask("count", 1), 9999 - left);
            Due.due("just so many", left > 0 ? c.ask("years", left) : 99, 99);
            Due.due("the last YEAR", c.ask("count", 1), 9999);
            Due.due("none more", c.ask("years", 1), Due.STATE);
            Due.due("STATE told", c.ask("told", 3), 3);
        }
        Calls c = States.ofYear(9999 - 60);
        Due.due("60 of 60", c.ask("years", 60), 99);
        Due.due("none more", c.ask("years", 1), Due.STATE);
    }

    private static void drawsNearTheLastYear() {
        Due.says("P18", "STATE: YEAR would be above 9999.");
        for (int left : new int[] {0, 1, 2, 39}) {
            Calls c = States.ofYear(9999 - left);
            Due.due("one more", c.ask("loose", left + 1), Due.STATE);
            Due.due("40", c.ask("loose", 40), Due.STATE);
            Due.due("41", c.ask("loose", 41), Due.BEYOND);
            Due.due("0", c.ask("loose", 0), Due.BEYOND);
            Due.due("nothing drawn", c.ask("count", 10), 1);
            Due.due("just so many", left > 0 ? c.ask("loose", left) : 99, 99);
            Due.due("the last YEAR", c.ask("count", 1), 9999);
            Due.due("none more", c.ask("loose", 1), Due.STATE);
        }
        Calls c = States.ofYear(9999 - 40);
        Due.due("40 of 40", c.ask("loose", 40), 99);
        Due.due("none more", c.ask("loose", 1), Due.STATE);
    }

    private static void drawsGoRound() {
        Due.says("T3", "each makes it z * 1103515245 + 12345 (an int), and gives z >>> 8");
        for (int z : new int[] {LEAST, LEAST + 1, -65536, -2, -1, 0, 1, 2, 65535, MOST - 1, MOST}) {
            Calls c = new Calls();
            Due.due("z is told", c.ask("seed", z), 1);
            Due.due("z", c.ask("count", 10), z);
            long first = (z * 1103515245L + 12345L) & 0xFFFFFFFFL;
            long second = (first * 1103515245L + 12345L) & 0xFFFFFFFFL;
            int season = (int) (first / 256 % 6);
            int rain = (int) (second / 256 % 10);
            c.ask("loose", 1);
            Due.due("z behind two draws, from " + z, c.ask("count", 10), (int) second);
            for (int s = 0; s < 6; s++) {
                Due.due("RAIN of " + s + ", from " + z, c.ask("ofSeason", s, 1), s == season ? rain : s);
            }
            Due.due("z is told", c.ask("seed", 7), (int) second);
        }
        Calls c = new Calls();
        c.ask("seed", -1);
        Due.due("years draw none", c.ask("years", 1), 1);
        Due.due("years draw none", c.ask("count", 10), -1);
    }

    private static void rainOfADraw() {
        Due.says("T3", "RAIN of that is its rest by 10; then a YEAR");
        boolean[] seasons = new boolean[6];
        boolean[] rains = new boolean[10];
        for (int z = 0; z < 60; z++) {
            Calls c = new Calls();
            c.ask("seed", 7919 * z);
            int first = 7919 * z * 1103515245 + 12345;
            int season = (first >>> 8) % 6;
            c.ask("season", 0, 0, 0);
            c.ask("loose", 1);
            int rain = c.ask("ofSeason", season, 1);
            Due.dueSo("RAIN is 0 to 9: " + rain, rain >= 0 && rain <= 9);
            Due.due("HAT by RAIN as drawn", c.ask("count", 4), c.ask("ofSeason", 0, 1));
            seasons[season] = true;
            rains[Math.max(0, Math.min(9, rain))] = true;
        }
        for (boolean b : seasons) {
            Due.dueSo("each SEASON is drawn", b);
        }
        for (boolean b : rains) {
            Due.dueSo("each RAIN is drawn", b);
        }
    }
}
