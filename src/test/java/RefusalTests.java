import java.util.List;

/**
 * Each argument of each call: one below what is allowed, the least, the greatest, one above, and far beyond. Each
 * ERROR of each call, in the order in which the document asks them. And what a refused call changes: nothing but
 * what told() tells.
 */
public final class RefusalTests {
    private static final String BARE = States.BARE;
    private static final String FULL = States.FULL;
    private static final String LAST = States.LAST;
    private static final int BEYOND = Due.BEYOND;
    private static final int NONE = Due.NONE;
    private static final int STATE = Due.STATE;
    private static final int TOO_MANY = Due.FULL;
    private static final int KIND = Due.KIND;
    private static final int LEAST = Integer.MIN_VALUE;
    private static final int MOST = Integer.MAX_VALUE;
    /** Of an argument that may be any number. */
    private static final int[] ANY = {LEAST, MOST};
    /** Of an argument that stays. */
    private static final int[] STAYS = {};
    private static final int FITS = 0;

    private RefusalTests() {
    }

    public static void main(String[] args) {
        theErrors();
        seasonsFigureSteps();
        visitors();
        noVisitors();
        texts();
        years();
        whatWouldBe();
        whatWouldBeBySheets();
        drawsAndVoices();
        sheets();
        moves();
        imagesAndWhatIsTold();
        asksChangeNothing();
        Due.end("RefusalTests");
    }

    private static void theErrors() {
        Due.says("T", "LOW is -1000000000; LOW - 1 BEYOND, LOW - 2 NONE, LOW - 3 STATE, LOW - 4 FULL, LOW - 5 KIND");
        Due.due("BEYOND", States.of(FULL).ask("years", 0), -1000000001);
        Due.due("NONE", States.of(FULL).ask("talls", 3), -1000000002);
        Due.due("STATE", States.of(LAST).ask("years", 1), -1000000003);
        Due.due("FULL", States.of(FULL).ask("tell", 0), -1000000004);
        Due.due("KIND", States.of(FULL).ask("as", 0, 1), -1000000005);
    }

    private static void seasonsFigureSteps() {
        Due.says("P2", "HEAT (what 0), RAIN (1) of a SEASON becomes v: what it was. BEYOND.");
        limits(FULL, "season", row(2, 0, 5), row(0, 5), row(0, 1), row(0, 9));
        limits(FULL, "season", row(2, 1, 5), row(0, 5), row(0, 1), row(0, 9));
        Due.says("P3", "Of a SEASON: what 0 HEAT, 1 RAIN. BEYOND.");
        limits(FULL, "ofSeason", row(2, 0), row(0, 5), row(0, 1));
        Due.says("P4", "WANT (what 0), LEAN (1), HAT (2), HIGH (3), FEET (4) become v: what they were. BEYOND.");
        int[] most = {99, 99, 99, 60, 15};
        for (int what = 0; what < 5; what++) {
            limits(FULL, "figure", row(what, 5), row(0, 4), row(0, most[what]));
        }
        Due.says("P5", "Of THE FIGURE: what 0 to 4 as of figure(), 5 WEIGHT, 6 what it YEARNS, 7 what it SHIFTS");
        limits(FULL, "ofFigure", row(5), row(0, 7));
        Due.says("P6", "TALL (what 0), BEARS (1) of a STEP becomes v: what it was. BEYOND.");
        limits(FULL, "step", row(4, 0, 5), row(0, 9), row(0, 1), row(0, 9));
        limits(FULL, "step", row(4, 1, 5), row(0, 9), row(0, 1), row(0, 99));
        Due.says("P7", "Of a STEP: what 0 TALL, 1 BEARS, 2 1 if it is GOOD, else 0. BEYOND.");
        for (int what = 0; what < 3; what++) {
            limits(FULL, "ofStep", row(4, what), row(0, 9), row(0, 2));
        }
        Due.says("P8", "TREES of a row become a set: what they were. BEYOND.");
        limits(FULL, "trees", row(3, 9), row(0, 7), row(0, 255));
    }

    private static void visitors() {
        Due.says("P9", "A VISITOR (km: 10 times the KIND, and m), so LOUD, every so many YEARS: its number. BEYOND. FULL.");
        limits(BARE, "visitor", row(34, 5, 6), row(0, 69), row(0, 9), row(1, 12));
        refused(FULL, BEYOND, "visitor", 70, 5, 6);
        refused(FULL, BEYOND, "visitor", -1, 5, 6);
        refused(FULL, BEYOND, "visitor", 34, 10, 6);
        refused(FULL, BEYOND, "visitor", 34, -1, 6);
        refused(FULL, BEYOND, "visitor", 34, 5, 13);
        refused(FULL, BEYOND, "visitor", 34, 5, 0);
        refused(FULL, TOO_MANY, "visitor", 0, 0, 1);
        refused(FULL, TOO_MANY, "visitor", 69, 9, 12);
        Due.says("P10", "Of a VISITOR: 0 KIND, 1 m, 2 LOUD, 3 EVERY, 4 1 if it COMES in this YEAR, else 0, 5 what it KEEPS");
        for (int what = 0; what < 6; what++) {
            limits(FULL, "ofVisitor", row(3, what), row(0, 7), row(0, 5));
        }
        Due.says("P11", "LOUD (what 0), EVERY (1) of a VISITOR becomes v: what it was. BEYOND.");
        limits(FULL, "change", row(3, 0, 5), row(0, 7), row(0, 1), row(0, 9));
        limits(FULL, "change", row(3, 1, 5), row(0, 7), row(0, 1), row(1, 12));
        Due.says("P12", "A VISITOR becomes one of a KIND, with m (km): the KIND that it was. BEYOND.");
        limits(FULL, "become", row(3, 25), row(0, 7), row(0, 69));
        Due.says("P13", "A VISITOR as one of a KIND: m. BEYOND. KIND: it isn't of that KIND, nor of one under it.");
        limits(FULL, "as", row(6, 0), row(0, 7), row(0, 6));
        limits(FULL, "as", row(6, 6), STAYS, row(0, 6));
        refused(FULL, BEYOND, "as", 8, 6);
        refused(FULL, BEYOND, "as", 0, 7);
        refused(FULL, KIND, "as", 0, 6);
        refused(FULL, KIND, "as", 1, 4);
        refused(FULL, KIND, "as", 6, 5);
    }

    /** One alone, and none: the least number is too great then. */
    private static void noVisitors() {
        Due.says("T1", "VISITORS 0, 1, .. (at most 8)");
        int[][] of = {{0, 2}, {0, 0, 5}, {0, 25}, {0, 0}, {0, 3, 99}, {0, 3}, {0}, {0, 2, 5}};
        String[] names = {"ofVisitor", "change", "become", "as", "loudFor", "everyFor", "power", "voice"};
        for (int i = 0; i < names.length; i++) {
            refused(BARE, BEYOND, names[i], of[i]);
            Calls c = States.of(BARE);
            c.ask("visitor", 0, 0, 1);
            Due.dueSo(names[i] + " of the one fits", c.ask(names[i], of[i]) >= 0);
            of[i][0] = 1;
            Due.due(names[i] + " of another one", c.ask(names[i], of[i]), BEYOND);
            of[i][0] = 3;
            refused(LAST, BEYOND, names[i], of[i]);
        }
        Calls c = States.of(BARE);
        c.ask("sheet", 0, 8, 0);
        Due.due("which, without VISITORS", c.ask("which", 0, 0), BEYOND);
        refused(LAST, BEYOND, "which", 0, 3);
    }

    private static void texts() {
        Due.says("P14", "The n lowest bytes (1 .. 8) of a word, the lowest first, come to THE TAPE: how many there are. BEYOND. FULL.");
        limits(BARE, "feed", row(3), row(1, 8));
        limits(LAST, "feed", row(3), row(1, 8));
        limitsOfRefused(FULL, TOO_MANY, "feed", row(3), row(1, 8));
        Due.says("P15", "BEYOND (THE TAPE stays).");
        limits(FULL, "text", row(0), row(0, 1));
        limits(BARE, "text", row(0), row(0, 1));
        Due.says("P16", "What a USE gives with its NAMES in order as a, b, c. BEYOND.");
        limits(FULL, "law", row(0, 1, 1, 1), row(0, 1), ANY, ANY, ANY);
        limits(BARE, "law", row(1, 1, 1, 1), row(0, 1), ANY, ANY, ANY);
    }

    private static void years() {
        Due.says("P17", "n (1 to 60) YEARS: LEAN then. BEYOND. STATE: YEAR would be above 9999.");
        limits(FULL, "years", row(3), row(1, 60));
        limitsOfRefused(LAST, STATE, "years", row(3), row(1, 60));
        Due.says("P18", "n (1 to 40) YEARS by draws: likewise. BEYOND. STATE: YEAR would be above 9999.");
        limits(FULL, "loose", row(3), row(1, 40));
        limitsOfRefused(LAST, STATE, "loose", row(3), row(1, 40));
    }

    private static void whatWouldBe() {
        Due.says("P19", "BEHIND n YEARS: WANT (what 0), LEAN (1), HAT (2). BEYOND.");
        limits(FULL, "then", row(3, 1), row(0, 60), row(0, 2));
        limits(LAST, "then", row(3, 1), row(0, 60), row(0, 2));
        Due.says("P20", "FALLS. NONE: not by 60.");
        refused(LAST, NONE, "falls");
        Due.says("P21", "WET. BEYOND.");
        limits(FULL, "wet", row(3, 5), row(0, 60), row(1, 99));
        Due.says("P22", "LOUD for one. BEYOND. NONE: with none.");
        limits(FULL, "loudFor", row(3, 5, 99), row(0, 7), row(0, 60), row(0, 99));
        refused(LAST, NONE, "loudFor", 1, 0, 4);
        refused(LAST, BEYOND, "loudFor", 3, 0, 4);
        refused(LAST, BEYOND, "loudFor", 1, 61, 4);
        refused(LAST, BEYOND, "loudFor", 1, 0, -1);
        Due.says("P23", "EVERY for one. BEYOND.");
        limits(FULL, "everyFor", row(3, 5), row(0, 7), row(0, 60));
        Due.says("P24", "NEEDLESS. BEYOND.");
        limits(FULL, "needless", row(3), row(0, 60));
        limits(BARE, "needless", row(3), row(0, 60));
        Due.says("P27", "STAIR: what 0 the set, 1 how many. BEYOND. NONE: with none.");
        limits(BARE, "stair", row(0), row(0, 1));
        Calls c = States.of(BARE);
        c.ask("figure", 3, 46);
        Due.due("none, what 0", c.ask("stair", 0), NONE);
        Due.due("none, what 1", c.ask("stair", 1), NONE);
        Due.due("none, but BEYOND is asked ahead", c.ask("stair", 2), BEYOND);
        Due.due("none, but BEYOND is asked ahead", c.ask("stair", -1), BEYOND);
        Due.due("NONE told", c.ask("told", 2), 2);
        Due.due("BEYOND told", c.ask("told", 1), 2);
        Due.says("P30", "POWER. BEYOND.");
        limits(FULL, "power", row(3), row(0, 7));
        Due.says("P31", "GAIT. BEYOND.");
        limits(FULL, "gait", row(3), row(0, 12));
        Due.says("P32", "ODDS: part 0 above, 1 below the line. BEYOND.");
        limits(FULL, "odds", row(3, 5, 0), row(0, 30), row(0, 99), row(0, 1));
        limits(FULL, "odds", row(3, 5, 1), row(0, 30), row(0, 99), row(0, 1));
    }

    /** In FULL, SHEET 3 is missing: BEYOND is asked ahead of that. */
    private static void whatWouldBeBySheets() {
        Due.says("P25", "BEYOND. NONE: the SHEET is missing; (what 1) there is none.");
        limits(FULL, "wanted", row(1, 0), row(0, 3), row(0, 1));
        limitsOfRefused(FULL, NONE, "wanted", row(3, 0), STAYS, row(0, 1));
        refused(FULL, NONE, "wanted", 2, 1);
        refused(FULL, BEYOND, "wanted", 2, 2);
        Due.due("none is 0, what 0", States.of(FULL).ask("wanted", 2, 0), 0);
        Due.says("P26", "WHICH, by a SHEET. BEYOND. NONE: the SHEET is missing.");
        limits(FULL, "which", row(1, 3), row(0, 3), row(0, 7));
        limitsOfRefused(FULL, NONE, "which", row(3, 3), STAYS, row(0, 7));
        Due.says("P29", "HOUSE, by a SHEET: what 0 how many, 1 the first. BEYOND. NONE: the SHEET is missing; (what 1) there is none.");
        limits(FULL, "house", row(1, 0), row(0, 3), row(0, 1));
        limitsOfRefused(FULL, NONE, "house", row(3, 0), STAYS, row(0, 1));
        refused(FULL, NONE, "house", 2, 1);
        refused(FULL, BEYOND, "house", 2, 2);
        Due.due("none is 0, what 0", States.of(FULL).ask("house", 2, 0), 0);
    }

    private static void drawsAndVoices() {
        Due.says("P33", "z becomes v: what it was (any number).");
        limits(FULL, "seed", row(3), ANY);
        Due.says("P34", "A VOICE of a VISITOR: any number. BEYOND.");
        for (int act = 0; act < 4; act++) {
            limits(FULL, "voice", row(3, act, 5), row(0, 7), row(0, 3), ANY);
        }
        Due.says("P35", "THE TRACE's i-th. NONE: there is none such.");
        int bodies = States.of(FULL).ask("count", 9);
        for (int i : new int[] {-1, LEAST, bodies, 39, 40, MOST}) {
            refused(FULL, NONE, "trace", i);
        }
        refused(BARE, NONE, "trace", 0);
        fits(FULL, "trace", 0);
        fits(FULL, "trace", bodies - 1);
    }

    private static void sheets() {
        Due.says("P36", "A SHEET has n numbers, all 0, of so many bits (8, 16, 32; 0: it is missing, n doesn't matter): 1. BEYOND. STATE: n is below 0 (ahead of BEYOND of n).");
        for (int sheet : new int[] {0, 3}) {
            for (int bits : new int[] {8, 16, 32}) {
                fits(FULL, "sheet", sheet, bits, 0);
                fits(FULL, "sheet", sheet, bits, 40);
                refused(FULL, STATE, "sheet", sheet, bits, -1);
                refused(FULL, STATE, "sheet", sheet, bits, LEAST);
                refused(FULL, BEYOND, "sheet", sheet, bits, 41);
                refused(FULL, BEYOND, "sheet", sheet, bits, MOST);
            }
            for (int n : new int[] {LEAST, -1, 0, 40, 41, MOST}) {
                Due.due("missing, n " + n, States.of(FULL).ask("sheet", sheet, 0, n), 1);
            }
        }
        for (int bits : new int[] {-8, -1, 1, 7, 9, 15, 17, 24, 31, 33, 64, 256 + 8, LEAST, MOST}) {
            refused(FULL, BEYOND, "sheet", 0, bits, 5);
            refused(FULL, BEYOND, "sheet", 0, bits, -1);
        }
        for (int sheet : new int[] {-1, 4, LEAST, MOST}) {
            refused(FULL, BEYOND, "sheet", sheet, 8, 5);
            refused(FULL, BEYOND, "sheet", sheet, 8, -1);
            refused(FULL, BEYOND, "sheet", sheet, 0, 5);
        }
        Due.says("P37", "BEYOND: no such SHEET. NONE: it is missing. BEYOND: no such number.");
        limits(FULL, "put", row(0, 5, 5), row(0, 3), row(0, 39), ANY);
        limits(FULL, "put", row(2, 0, 5), row(0, 3), row(0, 3), ANY);
        limitsOfRefused(FULL, NONE, "put", row(3, 5, 5), STAYS, ANY, ANY);
        refused(FULL, NONE, "put", 3, -1, 5);
        refused(FULL, NONE, "put", 3, 40, 5);
        refused(FULL, BEYOND, "put", 4, -1, 5);
        refused(FULL, BEYOND, "put", 1, 0, 5);
        Due.says("P39", "BEYOND: no such SHEET. NONE: it is missing.");
        limits(FULL, "talls", row(0), row(0, 3));
        refused(FULL, NONE, "talls", 3);
        Due.says("P40", "BEYOND: no such SHEET. NONE: it is missing.");
        limits(FULL, "judge", row(0), row(0, 3));
        refused(FULL, NONE, "judge", 3);
    }

    private static void moves() {
        Due.says("P38", "BEYOND: no such SHEET. NONE: one is missing. KIND: they are of unlike bits. BEYOND: n, i, or j is below 0, or they don't stand there.");
        int[] i = row(0, 38);
        limits(FULL, "move", row(0, 3, 0, 5, 2), row(0, 3), i, row(0, 3), i, STAYS);
        refused(FULL, BEYOND, "move", 0, 3, 0, 5, -1);
        refused(FULL, BEYOND, "move", 0, 3, 0, 5, 36);
        refused(FULL, BEYOND, "move", 0, 5, 0, 3, 36);
        refused(FULL, BEYOND, "move", 0, 3, 0, 5, LEAST);
        refused(FULL, BEYOND, "move", 0, 3, 0, 5, MOST);
        refused(FULL, BEYOND, "move", 0, MOST, 0, 5, MOST);
        fits(FULL, "move", 0, 3, 0, 5, 0);
        fits(FULL, "move", 0, 3, 0, 5, 35);
        fits(FULL, "move", 0, 0, 0, 0, 40);
        refused(FULL, BEYOND, "move", 0, 0, 0, 0, 41);
        fits(FULL, "move", 0, 40, 0, 40, 0);
        refused(FULL, BEYOND, "move", 0, 41, 0, 0, 0);
        refused(FULL, BEYOND, "move", 0, 0, 0, 41, 0);
        fits(FULL, "move", 1, 0, 1, 0, 0);
        refused(FULL, BEYOND, "move", 1, 0, 1, 0, 1);
        refused(FULL, BEYOND, "move", 4, 0, 3, 0, 1);
        refused(FULL, BEYOND, "move", 3, 0, 4, 0, 1);
        refused(FULL, NONE, "move", 3, 0, 0, 0, 1);
        refused(FULL, NONE, "move", 0, 0, 3, 0, 1);
        refused(FULL, NONE, "move", 3, 0, 3, 0, 0);
        refused(FULL, NONE, "move", 0, -1, 3, 0, -1);
        refused(FULL, KIND, "move", 0, 0, 1, 0, 0);
        refused(FULL, KIND, "move", 1, 0, 2, 0, 0);
        refused(FULL, KIND, "move", 2, -1, 0, -1, -1);
        refused(FULL, KIND, "move", 0, 40, 2, 4, 1);
    }

    private static void imagesAndWhatIsTold() {
        Due.says("P42", "All is as the IMAGE has it, which stays: YEAR. NONE: there is none.");
        refused(BARE, NONE, "restore");
        refused(LAST, NONE, "restore");
        fits(FULL, "restore");
        Due.says("P43", "One more number waits: how many. FULL: 20 wait.");
        limits(BARE, "tell", row(3), ANY);
        limitsOfRefused(FULL, TOO_MANY, "tell", row(3), ANY);
        Due.says("P45", "z (any number). BEYOND.");
        limits(FULL, "count", row(3), row(0, 10));
        Due.says("P46", "How many acts have answered an ERROR LOW - k (k 1 .. 5); BEYOND: another k (counted, too).");
        limits(FULL, "told", row(1), row(1, 5));
    }

    private static void asksChangeNothing() {
        Due.says("T3", "(All this is only thought, YEAR beyond 9999, too.)");
        for (String state : new String[] {FULL, LAST}) {
            changesNothing(state, "then", 60, 0);
            changesNothing(state, "wet", 60, 5);
            changesNothing(state, "loudFor", 2, 60, 99);
            changesNothing(state, "everyFor", 2, 60);
            changesNothing(state, "needless", 60);
            changesNothing(state, "gait", 12);
            changesNothing(state, "odds", 30, 50, 1);
            changesNothing(state, "power", 2);
            changesNothing(state, "exact");
            changesNothing(state, "law", 0, 1, 2, 3);
            changesNothing(state, "ofVisitor", 2, 5);
            changesNothing(state, "ofFigure", 6);
            changesNothing(state, "told", 1);
        }
        changesNothing(FULL, "falls");
        changesNothing(FULL, "stair", 0);
        changesNothing(FULL, "wanted", 1, 1);
        changesNothing(FULL, "which", 1, 7);
        changesNothing(FULL, "house", 1, 1);
        changesNothing(FULL, "judge", 0);
        changesNothing(FULL, "trace", 1);
    }

    private static int[] row(int... v) {
        return v;
    }

    /** Each argument in turn, the others staying: what is allowed is not BEYOND. */
    private static void limits(String state, String name, int[] args, int[]... allowed) {
        limitsOfRefused(state, FITS, name, args, allowed);
    }

    /** Where what is allowed is refused by another ERROR: BEYOND is asked ahead of it. */
    private static void limitsOfRefused(String state, int error, String name, int[] args, int[]... allowed) {
        for (int i = 0; i < args.length; i++) {
            for (int edge : allowed[i]) {
                if (error == FITS) {
                    fits(state, name, with(args, i, edge));
                } else {
                    refused(state, error, name, with(args, i, edge));
                }
            }
            if (allowed[i] != ANY && allowed[i] != STAYS) {
                refused(state, BEYOND, name, with(args, i, allowed[i][0] - 1));
                refused(state, BEYOND, name, with(args, i, allowed[i][1] + 1));
                refused(state, BEYOND, name, with(args, i, LEAST));
                refused(state, BEYOND, name, with(args, i, MOST));
            }
        }
    }

    private static int[] with(int[] args, int i, int v) {
        int[] other = args.clone();
        other[i] = v;
        return other;
    }

    private static String call(String state, String name, int... v) {
        return state + ", " + name + java.util.Arrays.toString(v);
    }

    /** Not BEYOND; the least and the greatest may be refused by another ERROR. */
    private static void fits(String state, String name, int... v) {
        Calls c = States.of(state);
        c.ask(name, v);
        Due.due(call(state, name, v) + ": BEYOND told", c.ask("told", 1), States.of(state).ask("told", 1));
    }

    private static void refused(String state, int error, String name, int... v) {
        Calls c = States.of(state);
        Calls twin = States.of(state);
        String call = call(state, name, v);
        Due.due(call, c.ask(name, v), error);
        for (int k = 1; k <= 5; k++) {
            int told = twin.ask("told", k) + (error == -1000000000 - k ? 1 : 0);
            Due.due(call + ": told of " + k, c.ask("told", k), told);
        }
        sameSeen(call, c, twin);
    }

    private static void changesNothing(String state, String name, int... v) {
        Calls c = States.of(state);
        Calls twin = States.of(state);
        String call = call(state, name, v);
        Due.dueSo(call + " is no ERROR", c.ask(name, v) >= -1);
        sameSeen(call, c, twin);
    }

    private static void sameSeen(String call, Calls c, Calls twin) {
        List<Integer> now = Seen.of(c);
        List<Integer> due = Seen.of(twin);
        Due.dueSo(call + " changes nothing", now.equals(due));
    }
}
