/** A test or more for each promise: ordinary inputs, the edges that the document names, wrong inputs. */
public final class PromiseTests {
    private static final int BEYOND = Due.BEYOND;
    private static final int NONE = Due.NONE;
    private static final int STATE = Due.STATE;
    private static final int FULL = Due.FULL;
    private static final int KIND = Due.KIND;
    private static final int LEAST = Integer.MIN_VALUE;
    private static final int MOST = Integer.MAX_VALUE;

    private PromiseTests() {
    }

    public static void main(String[] args) {
        newObject();
        seasons();
        figure();
        ofFigure();
        steps();
        trees();
        visitorsMade();
        comesOfVisitors();
        keepsOfVisitors();
        change();
        becomeAndAs();
        feed();
        textsRead();
        faults();
        law();
        aYear();
        years();
        loose();
        then();
        falls();
        wet();
        loudFor();
        everyFor();
        needless();
        wanted();
        which();
        stair();
        exact();
        house();
        power();
        gait();
        odds();
        seed();
        voice();
        trace();
        sheet();
        put();
        move();
        talls();
        judge();
        imageAndRestore();
        tellAndCheck();
        count();
        told();
        Due.end("PromiseTests");
    }

    private static void due(String what, long got, long want) {
        Due.due(what, got, want);
    }

    private static void newObject() {
        BronzeDown x = new BronzeDown();
        for (int s = 0; s < 6; s++) {
            due("1: HEAT of " + s, x.ofSeason(s, 0), 3);
            due("1: RAIN of " + s, x.ofSeason(s, 1), s);
        }
        int[] figure = {10, 0, 0, 20, 1, 40, 3, 1};
        for (int what = 0; what < 8; what++) {
            due("1: figure " + what, x.ofFigure(what), figure[what]);
        }
        for (int s = 0; s < 10; s++) {
            due("1: TALL of " + s, x.ofStep(s, 0), s);
            due("1: BEARS of " + s, x.ofStep(s, 1), 50);
            due("1: GOOD of " + s, x.ofStep(s, 2), 1);
        }
        int[] counts = {0, 0, 10, 0, 0, 0, 0, 0, 0, 0, 1};
        for (int what = 0; what < 11; what++) {
            due("1: count " + what, x.count(what), counts[what]);
        }
        due("1: no visitor", x.ofVisitor(0, 0), BEYOND);
        due("1: no sheet", x.talls(0), NONE);
        due("1: no image", x.restore(), NONE);
        due("1: no trace", x.trace(0), NONE);
    }

    private static void seasons() {
        BronzeDown x = new BronzeDown();
        due("2: heat", x.season(0, 0, 9), 3);
        due("2: heat again", x.season(0, 0, 0), 9);
        due("2: rain", x.season(5, 1, 7), 5);
        due("3: heat", x.ofSeason(0, 0), 0);
        due("3: rain", x.ofSeason(5, 1), 7);
        due("3: another's", x.ofSeason(4, 1), 4);
        int[][] wrong = {{-1, 0, 0}, {6, 0, 0}, {0, -1, 0}, {0, 2, 0}, {0, 0, -1}, {0, 0, 10}, {LEAST, 0, 0},
            {0, MOST, 0}, {0, 1, LEAST}};
        for (int[] w : wrong) {
            due("2: wrong", x.season(w[0], w[1], w[2]), BEYOND);
        }
        due("3: wrong season", x.ofSeason(6, 0), BEYOND);
        due("3: wrong season", x.ofSeason(-1, 0), BEYOND);
        due("3: wrong what", x.ofSeason(0, 2), BEYOND);
        due("3: wrong what", x.ofSeason(0, -1), BEYOND);
        due("2: wrong changes nothing", x.ofSeason(0, 0), 0);
        due("2: told", x.told(1), 13);
    }

    private static void figure() {
        BronzeDown x = new BronzeDown();
        int[] most = {99, 99, 99, 60, 15};
        int[] first = {10, 0, 0, 20, 1};
        for (int what = 0; what < 5; what++) {
            due("4: most of " + what, x.figure(what, most[what]), first[what]);
            due("4: beyond most of " + what, x.figure(what, most[what] + 1), BEYOND);
            due("4: below 0 of " + what, x.figure(what, -1), BEYOND);
            due("5: what stands of " + what, x.ofFigure(what), most[what]);
            due("4: 0 of " + what, x.figure(what, 0), most[what]);
        }
        due("4: no such part", x.figure(5, 0), BEYOND);
        due("4: no such part", x.figure(-1, 0), BEYOND);
    }

    private static void ofFigure() {
        BronzeDown x = new BronzeDown();
        x.figure(2, 3);
        due("5: weight", x.ofFigure(5), 40);
        x.figure(2, 4);
        due("5: weight", x.ofFigure(5), 41);
        x.figure(2, 99);
        due("5: weight", x.ofFigure(5), 64);
        x.season(0, 0, 8);
        due("5: yearns without a text", x.ofFigure(6), 8);
        x.figure(0, 99);
        due("5: shifts without a text", x.ofFigure(7), 9);
        x.figure(0, 9);
        due("5: shifts cut", x.ofFigure(7), 0);
        Due.read(x, 0, "w+h-l");
        x.figure(1, 5);
        due("5: yearns by want, heat, lean", x.ofFigure(6), 9 + 8 - 5);
        Due.read(x, 1, "f/9-h+w/3");
        due("5: shifts by want, heat, hat", x.ofFigure(7), 11 - 8 + 3);
        x.figure(0, 10);
        x.season(0, 0, 3);
        x.years(1);
        x.season(1, 0, 1);
        x.figure(1, 2);
        x.figure(0, 4);
        due("5: yearns by the season of the year", x.ofFigure(6), 4 + 1 - 2);
        due("5: no such", x.ofFigure(8), BEYOND);
        due("5: no such", x.ofFigure(-1), BEYOND);
    }

    private static void steps() {
        BronzeDown x = new BronzeDown();
        due("6: tall", x.step(0, 0, 9), 0);
        due("6: bears", x.step(9, 1, 99), 50);
        due("7: tall", x.ofStep(0, 0), 9);
        due("7: bears", x.ofStep(9, 1), 99);
        int[][] wrong = {{-1, 0, 0}, {10, 0, 0}, {0, -1, 0}, {0, 2, 0}, {0, 0, -1}, {0, 0, 10}, {0, 1, -1},
            {0, 1, 100}, {MOST, 1, 5}, {LEAST, 0, 5}};
        for (int[] w : wrong) {
            due("6: wrong", x.step(w[0], w[1], w[2]), BEYOND);
        }
        x.step(1, 1, 40);
        x.step(2, 1, 39);
        due("7: bears just the weight", x.ofStep(1, 2), 1);
        due("7: bears less", x.ofStep(2, 2), 0);
        x.figure(2, 4);
        due("7: bears less with rain", x.ofStep(1, 2), 0);
        due("7: no such step", x.ofStep(10, 2), BEYOND);
        due("7: no such step", x.ofStep(-1, 2), BEYOND);
        due("7: no such step", x.ofStep(10, 0), BEYOND);
        due("7: no such what", x.ofStep(0, 3), BEYOND);
        due("7: no such what", x.ofStep(0, -1), BEYOND);
    }

    private static void trees() {
        BronzeDown x = new BronzeDown();
        due("8: first", x.trees(0, 255), 0);
        due("8: last", x.trees(7, 129), 0);
        due("8: again", x.trees(0, 1), 255);
        due("8: wrong row", x.trees(8, 0), BEYOND);
        due("8: wrong row", x.trees(-1, 0), BEYOND);
        due("8: wrong set", x.trees(0, 256), BEYOND);
        due("8: wrong set", x.trees(0, -1), BEYOND);
        due("8: kept", x.trees(0, 0), 1);
    }

    private static void visitorsMade() {
        BronzeDown x = new BronzeDown();
        int[][] wrong = {{-1, 0, 1}, {70, 0, 1}, {0, -1, 1}, {0, 10, 1}, {0, 0, 0}, {0, 0, 13}, {LEAST, 0, 1},
            {0, 0, MOST}};
        for (int[] w : wrong) {
            due("9: wrong", x.visitor(w[0], w[1], w[2]), BEYOND);
        }
        for (int i = 0; i < 8; i++) {
            due("9: number", x.visitor(69 - i, i, i + 1), i);
        }
        due("9: a ninth", x.visitor(0, 0, 1), FULL);
        due("9: a wrong ninth", x.visitor(70, 0, 1), BEYOND);
        for (int i = 0; i < 8; i++) {
            due("10: kind", x.ofVisitor(i, 0), 6);
            due("10: m", x.ofVisitor(i, 1), 9 - i);
            due("10: loud", x.ofVisitor(i, 2), i);
            due("10: every", x.ofVisitor(i, 3), i + 1);
        }
        due("10: no such", x.ofVisitor(8, 0), BEYOND);
        due("10: no such", x.ofVisitor(-1, 0), BEYOND);
        due("10: no such what", x.ofVisitor(0, 6), BEYOND);
        due("10: no such what", x.ofVisitor(0, -1), BEYOND);
    }

    /** In YEAR 6 (SEASON 0) by EVERY 1 and 4, with RAIN 4, 5, 6, 7. */
    private static void comesOfVisitors() {
        int[][] every1 = {{1, 1, 1, 1}, {1, 1, 1, 1}, {1, 0, 0, 0}, {1, 1, 1, 1}, {1, 1, 1, 0}, {1, 0, 0, 0},
            {1, 1, 1, 1}};
        int[][] every4 = {{0, 0, 0, 0}, {0, 0, 0, 0}, {1, 0, 0, 0}, {0, 0, 0, 0}, {0, 0, 0, 0}, {0, 0, 0, 0},
            {0, 0, 0, 0}};
        BronzeDown x = new BronzeDown();
        x.years(6);
        x.visitor(5, 2, 1);
        x.visitor(5, 2, 4);
        for (int rain = 4; rain <= 7; rain++) {
            x.season(0, 1, rain);
            for (int kind = 0; kind < 7; kind++) {
                x.become(0, 10 * kind + 5);
                x.become(1, 10 * kind + 5);
                due("10: comes of " + kind + " by rain " + rain, x.ofVisitor(0, 4), every1[kind][rain - 4]);
                due("10: comes rarely of " + kind + " by rain " + rain, x.ofVisitor(1, 4), every4[kind][rain - 4]);
            }
        }
        x.become(0, 66);
        due("10: a general but not in the year 6", x.ofVisitor(0, 4), 0);
        x.years(10);
        due("10: nor in the year 16", x.ofVisitor(0, 4), 0);
        x.years(1);
        due("10: but in the year 17", x.ofVisitor(0, 4), 1);
    }

    private static void keepsOfVisitors() {
        BronzeDown x = new BronzeDown();
        x.visitor(8, 7, 1);
        int[] cool = {3, 7, 1, 5, 7, 2, 10};
        int[] hot = {3, 7, 1, 5, 9, 2, 10};
        int[] wanting = {3, 7, 1, 5, 9, 2, 0};
        for (int kind = 0; kind < 7; kind++) {
            x.become(0, 10 * kind + 8);
            x.season(0, 0, 5);
            x.figure(0, 60);
            due("10: keeps, cool, of " + kind, x.ofVisitor(0, 5), cool[kind]);
            x.season(0, 0, 6);
            due("10: keeps, hot, of " + kind, x.ofVisitor(0, 5), hot[kind]);
            x.figure(0, 61);
            due("10: keeps, wanting, of " + kind, x.ofVisitor(0, 5), wanting[kind]);
        }
    }

    private static void change() {
        BronzeDown x = new BronzeDown();
        x.visitor(0, 4, 5);
        due("11: loud", x.change(0, 0, 9), 4);
        due("11: every", x.change(0, 1, 12), 5);
        due("11: loud to 0", x.change(0, 0, 0), 9);
        due("11: every to 1", x.change(0, 1, 1), 12);
        int[][] wrong = {{1, 0, 0}, {-1, 0, 0}, {0, -1, 1}, {0, 2, 1}, {0, 0, -1}, {0, 0, 10}, {0, 1, 0}, {0, 1, 13}};
        for (int[] w : wrong) {
            due("11: wrong", x.change(w[0], w[1], w[2]), BEYOND);
        }
        due("11: kept", x.ofVisitor(0, 2), 0);
        due("11: kept", x.ofVisitor(0, 3), 1);
    }

    private static void becomeAndAs() {
        int[][] under = {{0}, {0, 1}, {0, 2}, {0, 3}, {0, 1, 4}, {0, 2, 5}, {0, 3, 6}};
        BronzeDown x = new BronzeDown();
        x.visitor(3, 4, 5);
        int was = 0;
        for (int kind = 6; kind >= 0; kind--) {
            due("12: what it was", x.become(0, 10 * kind + kind + 2), was);
            was = kind;
            for (int as = 0; as < 7; as++) {
                boolean so = false;
                for (int k : under[kind]) {
                    so = so || k == as;
                }
                due("13: a " + kind + " as a " + as, x.as(0, as), so ? kind + 2 : KIND);
            }
        }
        due("12: loud stays", x.ofVisitor(0, 2), 4);
        due("12: every stays", x.ofVisitor(0, 3), 5);
        due("12: the least km", x.become(0, 0), 0);
        due("12: m", x.ofVisitor(0, 1), 0);
        due("12: the most km", x.become(0, 69), 0);
        due("12: m", x.ofVisitor(0, 1), 9);
        due("12: no such km", x.become(0, 70), BEYOND);
        due("12: no such km", x.become(0, -1), BEYOND);
        due("12: no such visitor", x.become(1, 0), BEYOND);
        due("13: no such visitor", x.as(1, 0), BEYOND);
        due("13: no such visitor", x.as(-1, 0), BEYOND);
        due("13: no such kind", x.as(0, 7), BEYOND);
        due("13: no such kind", x.as(0, -1), BEYOND);
        due("13: told", x.told(5), 49 - 16);
    }

    private static void feed() {
        BronzeDown x = new BronzeDown();
        due("14: none", x.feed(0, 0), BEYOND);
        due("14: nine", x.feed(0, 9), BEYOND);
        due("14: below 0", x.feed(0, LEAST), BEYOND);
        due("14: one", x.feed('7', 1), 1);
        due("14: eight", x.feed(0x2B392B382B372B36L, 8), 9);
        due("14: count", x.count(7), 9);
        due("14: lowest first: 76+7+8+9+ ends too early", x.text(0), -19);
        for (int i = 1; i <= 6; i++) {
            due("14: more", x.feed(-1L, 8), 8 * i);
        }
        due("14: too many", x.feed(-1L, 3), FULL);
        due("14: just so many", x.feed(-1L, 2), 50);
        due("14: full", x.feed(0, 1), FULL);
        due("14: wrong ahead of full", x.feed(0, 9), BEYOND);
        due("14: such bytes are no text", x.text(0), -10);
        due("14: empty then", x.feed('1', 1), 1);
        due("14: the highest byte of a word", x.feed(0x3700000000000000L | 0x2B2B2B2B2B2BL, 8), 9);
        due("14: place of the first that is wrong", x.text(0), -12);
    }

    private static int worth(String signs) {
        BronzeDown x = new BronzeDown();
        due("15: " + signs, Due.read(x, 0, signs), 1);
        return x.law(0, 7, 3, 11);
    }

    private static void textsRead() {
        String[] texts = {"w", "h", "l", "1+2*3", "(1+2)*3", "20-3-4", "20/3/2", "19%7%3", "2*3%4", "17/5*2",
            "!0", "!7", "!!7", "!0+4", "!(w=7)", "1|0", "0|0", "5&2", "5&0", "0&1|1", "1|1&0", "3<4", "4<3", "3>2",
            "2=2", "2=3", "w<h|h<w", "1+1=2", "(1<2)<3", "1/0", "5%0", "(0-7)/2+9", "(0-7)%4+9", "0012", "9999/500",
            "(((((8)))))", "!!!!!0", "!(!(!0))", "(!(!0)+1)*9", "5|6+1", "7&8+0", "3*(2|5)", "2&1", "1&2", "2|0",
            "0|2", "7<7", "7>7", "6>7", "7=7"};
        int[] worths = {7, 3, 11, 7, 9, 13, 3, 2, 2, 6,
            1, 0, 1, 5, 0, 1, 0, 1, 0, 1, 1, 1, 0, 1,
            1, 0, 1, 1, 1, 0, 0, 6, 6, 12, 19,
            8, 1, 1, 9, 1, 1, 3, 1, 1, 1,
            1, 0, 0, 0, 1};
        for (int i = 0; i < texts.length; i++) {
            due("15: what " + texts[i] + " gives", worth(texts[i]), worths[i]);
        }
        BronzeDown x = new BronzeDown();
        due("15: the other's names", Due.read(x, 1, "f-w-h"), 1);
        due("15: the other's names", x.law(1, 3, 2, 9), 4);
        due("15: a text of 50 signs", Due.read(x, 0, "1+1+1+1+1+1+1+1+1+1+1+1+1+1+1+1+1+1+1+1+1+1+1+1+99"), 1);
        due("15: its worth is held", x.law(0, 0, 0, 0), 20);
        due("15: ints that wrap", Due.read(x, 0, "9999*9999*9999*9999/9999"), 1);
        due("15: ints that wrap", x.law(0, 0, 0, 0), Math.max(0, Math.min(20, 9999 * 9999 * 9999 * 9999 / 9999)));
        Due.read(x, 0, "9999*9999*9999%17+9");
        due("15: ints that wrap", x.law(0, 0, 0, 0), 9999 * 9999 * 9999 % 17 + 9);
        due("15: the least by -1", Due.read(x, 0, "w/h=w&w<0"), 1);
        due("15: the least by -1", x.law(0, LEAST, -1, 0), 1);
        due("15: its rest", Due.read(x, 0, "w%h+4"), 1);
        due("15: its rest", x.law(0, LEAST, -1, 0), 4);
        due("15: compared, not taken away", Due.read(x, 0, "w<h"), 1);
        due("15: compared, not taken away", x.law(0, LEAST, MOST, 0), 1);
    }

    private static void faults() {
        String[] texts = {"", "+", "w+", "w*", "12345", "1234h", "ww", "w w", "(w", "(w))", ")", "()", "1<2<3", "1=2=3",
            "1<2&3>4>5", "(1<2)<3<4", "((((((1))))))", "!!!!!!1", "!(!(!(1)))", "f", "w+f", "1||2", "1&", "1|", "!", "!)",
            "a", "-1", "1--1", "1<=2", "w\n", "(1<2", "1+(2*", "!!(!(!1)+1)", "!!(!(1)+!!1)+!!!!!1"};
        int[] places = {0, 0, 2, 2, 4, 4, 1, 1, 2, 3, 0, 1, 3, 3,
            7, 7, 5, 5, 5, 0, 2, 2, 2, 2, 1, 1,
            0, 0, 2, 2, 1, 4, 5, 5, -1};
        for (int i = 0; i < texts.length; i++) {
            BronzeDown x = new BronzeDown();
            due("15: first", Due.read(x, 0, "17"), 1);
            due("15: fault of " + texts[i], Due.read(x, 0, texts[i]), places[i] < 0 ? 1 : -10 - places[i]);
            due("15: the tape is empty behind " + texts[i], x.count(7), 0);
            if (places[i] >= 0) {
                due("15: the one ahead stays behind " + texts[i], x.law(0, 0, 0, 0), 17);
            }
            due("15: a fault is no error", x.told(1) + x.told(2) + x.told(3) + x.told(4) + x.told(5), 0);
        }
        BronzeDown x = new BronzeDown();
        Due.write(x, "l");
        due("15: no such use", x.text(2), BEYOND);
        due("15: no such use", x.text(-1), BEYOND);
        due("15: the tape stays", x.count(7), 1);
        due("15: l is none of the other's names", x.text(1), -10);
        due("15: 50 bytes that end too early", Due.read(x, 0, "1+1+1+1+1+1+1+1+1+1+1+1+1+1+1+1+1+1+1+1+1+1+1+1+1+"), -60);
    }

    private static void law() {
        BronzeDown x = new BronzeDown();
        due("16: without a text", x.law(0, 90, 6, 90), 6);
        due("16: the other without a text", x.law(1, 79, 9, 99), 7);
        due("16: held above, without a text", x.law(0, 0, 21, 0), 20);
        due("16: held below, without a text", x.law(0, 0, LEAST, 0), 0);
        due("16: the other held, without a text", x.law(1, MOST, 0, 0), 9);
        due("16: the other held, without a text", x.law(1, LEAST, 0, 0), 0);
        Due.read(x, 0, "w-h-l");
        due("16: names in order", x.law(0, 19, 5, 2), 12);
        due("16: held", x.law(0, 19, -5, 2), 20);
        due("16: held", x.law(0, 1, 1, 1), 0);
        Due.read(x, 1, "w-h-f");
        due("16: the other", x.law(1, 19, 5, 6), 8);
        due("16: the other held", x.law(1, 19, 4, 5), 9);
        due("16: the other held", x.law(1, 1, 1, 1), 0);
        due("16: no such use", x.law(2, 0, 0, 0), BEYOND);
        due("16: no such use", x.law(-1, 0, 0, 0), BEYOND);
    }

    /** The order of (1) to (4), and what each works by. */
    private static void aYear() {
        BronzeDown x = new BronzeDown();
        x.figure(0, 95);
        x.figure(2, 98);
        x.season(0, 0, 5);
        x.season(0, 1, 9);
        x.visitor(66, 9, 1);
        x.visitor(10, 9, 1);
        x.visitor(10, 9, 2);
        x.visitor(69, 9, 1);
        Due.read(x, 0, "l+h");
        Due.read(x, 1, "w/10-h+f/49");
        due("17: shifts by want behind the visitors, the hat as the year began", x.years(1), 8 - 5 + 2);
        due("17: want is held ahead of the visitors", x.count(2), 99 - 18);
        due("17: hat is less ahead of more", x.count(4), 99);
        due("17: year", x.count(1), 1);

        BronzeDown y = new BronzeDown();
        y.figure(0, 66);
        Due.read(y, 0, "0");
        y.visitor(19, 9, 1);
        y.visitor(66, 9, 1);
        due("17: a general by want as it is then", y.years(1), 4);
        due("17: a general by want as it is then", y.count(2), 66 - 9 - 2 * (4 + 2));

        BronzeDown z = new BronzeDown();
        z.figure(2, 2);
        z.season(0, 1, 4);
        z.visitor(10, 9, 1);
        z.visitor(10, 9, 1);
        z.years(1);
        due("17: want is 0 at least", z.count(2), 0);
        due("17: hat is 0 at least, then more", z.count(4), 4);
        z.figure(1, 95);
        z.figure(0, 99);
        due("17: lean is 99 at most", z.years(1), 99);
    }

    private static void years() {
        BronzeDown x = new BronzeDown();
        due("17: one", x.years(1), 1);
        due("17: two more", x.years(2), 1 + 1 + 1);
        due("17: below", x.years(0), BEYOND);
        due("17: above", x.years(61), BEYOND);
        due("17: far below", x.years(LEAST), BEYOND);
        due("17: the year", x.count(1), 3);
        for (int i = 0; i < 166; i++) {
            x.years(60);
        }
        due("17: the year", x.count(1), 9963);
        due("17: above the last", x.years(37), STATE);
        due("18: above the last", x.loose(37), STATE);
        due("17: above ahead of the last", x.years(61), BEYOND);
        due("17: up to the last", x.years(36), 99);
        due("17: the last", x.count(1), 9999);
        due("17: none more", x.years(1), STATE);
        due("18: none more", x.loose(1), STATE);
        due("19: but in thought", x.then(60, 1), 99);

        BronzeDown y = new BronzeDown();
        for (int i = 0; i < 166; i++) {
            y.years(60);
        }
        due("18: up to the last", y.loose(39), 99);
        due("18: the last", y.count(1), 9999);
    }

    private static void loose() {
        BronzeDown x = new BronzeDown();
        int z = 1;
        int[] rain = {0, 1, 2, 3, 4, 5};
        int hat = 0;
        for (int year = 0; year < 40; year++) {
            z = z * 1103515245 + 12345;
            int season = (z >>> 8) % 6;
            z = z * 1103515245 + 12345;
            rain[season] = (z >>> 8) % 10;
            hat = Math.min(99, Math.max(0, hat - 3) + rain[year % 6]);
        }
        BronzeDown y = new BronzeDown();
        y.years(40);
        due("18: lean", x.loose(40), y.count(3));
        due("18: z", x.count(10), z);
        due("18: hat", x.count(4), hat);
        for (int s = 0; s < 6; s++) {
            due("18: rain of " + s, x.ofSeason(s, 1), rain[s]);
        }
        due("18: below", x.loose(0), BEYOND);
        due("18: above", x.loose(41), BEYOND);
        due("18: nothing drawn", x.count(10), z);
    }

    private static void then() {
        BronzeDown x = new BronzeDown();
        due("19: want now", x.then(0, 0), 10);
        due("19: want", x.then(2, 0), 16);
        due("19: lean", x.then(4, 1), 1 + 1 + 1 + 2);
        due("19: hat", x.then(5, 2), 4);
        due("19: hat", x.then(6, 2), 4 - 3 + 5);
        due("19: hat", x.then(60, 2), 6);
        due("19: below", x.then(-1, 0), BEYOND);
        due("19: above", x.then(61, 0), BEYOND);
        due("19: no such what", x.then(0, -1), BEYOND);
        due("19: no such what", x.then(0, 3), BEYOND);
        due("19: only thought", x.count(1), 0);
        due("19: only thought", x.count(2), 10);
    }

    private static void falls() {
        BronzeDown x = new BronzeDown();
        due("20: in a while", x.falls(), 18);
        x.figure(1, 59);
        due("20: soon", x.falls(), 1);
        x.figure(1, 60);
        due("20: now", x.falls(), 0);
        x.figure(1, 0);
        Due.read(x, 1, "1");
        due("20: at the last", x.falls(), 60);
        x.years(1);
        x.figure(1, 0);
        due("20: at the last again", x.falls(), 60);
        x.figure(1, 1);
        Due.read(x, 1, "0");
        due("20: never", x.falls(), NONE);
        due("20: told", x.told(2), 1);
    }

    private static void wet() {
        BronzeDown x = new BronzeDown();
        for (int s = 0; s < 6; s++) {
            x.season(s, 0, s % 2 == 0 ? 0 : 4);
            x.season(s, 1, s % 2 == 0 ? 4 : 0);
        }
        due("21: by turns", x.wet(7, 4), 4);
        due("21: never so much", x.wet(60, 5), 0);
        x.figure(2, 9);
        due("21: now doesn't count", x.wet(0, 1), 0);
        due("21: one", x.wet(1, 13), 1);
        due("21: always", x.wet(60, 9), 60);
        int[][] wrong = {{-1, 1}, {61, 1}, {0, 0}, {0, 100}};
        for (int[] w : wrong) {
            due("21: wrong", x.wet(w[0], w[1]), BEYOND);
        }
        due("21: the edge", x.wet(60, 99), 0);
    }

    private static void loudFor() {
        BronzeDown x = new BronzeDown();
        x.visitor(10, 0, 1);
        int[] lean = new int[10];
        for (int loud = 0; loud < 10; loud++) {
            x.change(0, 0, loud);
            lean[loud] = x.then(9, 1);
        }
        for (int v = 0; v < 30; v++) {
            int due = NONE;
            for (int loud = 9; loud >= 0; loud--) {
                due = lean[loud] <= v ? loud : due;
            }
            due("22: by " + v, x.loudFor(0, 9, v), due);
        }
        due("22: now", x.loudFor(0, 0, 0), 0);
        x.figure(1, 1);
        due("22: none", x.loudFor(0, 0, 0), NONE);
        int[][] wrong = {{1, 0, 0}, {-1, 0, 0}, {0, -1, 0}, {0, 61, 0}, {0, 0, -1}, {0, 0, 100}};
        for (int[] w : wrong) {
            due("22: wrong", x.loudFor(w[0], w[1], w[2]), BEYOND);
        }
        due("22: only thought", x.ofVisitor(0, 2), 9);
        due("22: edges", x.loudFor(0, 60, 99), 0);
        BronzeDown y = new BronzeDown();
        y.visitor(10, 0, 1);
        Due.read(y, 0, "9");
        Due.read(y, 1, "w");
        y.figure(0, 0);
        due("22: as loud as can be", y.loudFor(0, 1, 0), 9);
        due("22: almost", y.loudFor(0, 1, 1), 8);
    }

    private static void everyFor() {
        BronzeDown x = new BronzeDown();
        x.visitor(13, 9, 5);
        for (int n = 0; n <= 60; n += 12) {
            int best = 0;
            int least = 100;
            for (int every = 12; every >= 1; every--) {
                x.change(0, 1, every);
                if (x.then(n, 1) <= least) {
                    least = x.then(n, 1);
                    best = every;
                }
            }
            due("23: by " + n, x.everyFor(0, n), best);
        }
        BronzeDown y = new BronzeDown();
        y.visitor(10, 1, 1);
        y.years(1);
        Due.read(y, 0, "0");
        y.figure(0, 9);
        y.figure(1, 0);
        due("23: several: the least", y.everyFor(0, 0), 1);
        Due.read(y, 1, "9-w");
        due("23: one that doesn't come in the year 1", y.everyFor(0, 1), 2);
        due("23: nor in the years 2, 3", y.everyFor(0, 3), 4);
        due("23: nor in the years to 10", y.everyFor(0, 10), 11);
        due("23: nor in the year 11", y.everyFor(0, 11), 12);
        Due.read(y, 1, "w<9");
        y.figure(1, 98);
        due("23: by lean as great as can be", y.everyFor(0, 1), 2);
        y.figure(1, 99);
        due("23: by lean that can't be more", y.everyFor(0, 1), 1);
        due("23: only thought", y.ofVisitor(0, 3), 1);
        due("23: no such visitor", y.everyFor(1, 0), BEYOND);
        due("23: no such visitor", y.everyFor(-1, 0), BEYOND);
        due("23: n", y.everyFor(0, -1), BEYOND);
        due("23: n", y.everyFor(0, 61), BEYOND);
    }

    private static void needless() {
        BronzeDown x = new BronzeDown();
        due("24: none", x.needless(0), 0);
        x.visitor(10, 0, 1);
        x.visitor(10, 9, 1);
        x.visitor(10, 9, 12);
        x.visitor(0, 1, 1);
        due("24: now none is of use", x.needless(0), 15);
        x.years(1);
        due("24: the third doesn't come", x.needless(6), 13);
        BronzeDown y = new BronzeDown();
        y.visitor(10, 9, 1);
        due("24: one alone that keeps it", y.needless(20), 0);
        due("24: it comes again behind", y.then(20, 1), 1 - 1);
        due("24: below", x.needless(-1), BEYOND);
        due("24: above", x.needless(61), BEYOND);
        due("24: only thought", x.count(0), 4);
        Due.read(x, 1, "9-w");
        due("24: one that makes it lean is needless", x.needless(12), 15);
    }

    private static void wanted() {
        BronzeDown x = new BronzeDown();
        Due.fill(x, 0, 8, 3, 6);
        due("25: many", x.wanted(0, 0), 7);
        due("25: least", x.wanted(0, 1), 27);
        Due.fill(x, 0, 32, 0);
        due("25: from 0", x.wanted(0, 1), 0);
        due("25: few", x.wanted(0, 0), 7);
        Due.fill(x, 0, 16, 9, 18);
        due("25: at the top", x.wanted(0, 0), 13);
        due("25: at the top", x.wanted(0, 1), 87);
        Due.fill(x, 0, 16, 9, 17);
        due("25: none", x.wanted(0, 0), 0);
        Due.read(x, 0, "0");
        Due.fill(x, 0, 16, 1, 2);
        Due.read(x, 1, "w=7");
        due("25: just one", x.wanted(0, 0), 1);
        due("25: just one", x.wanted(0, 1), 7);
        Due.read(x, 1, "w>97");
        due("25: just two", x.wanted(0, 0), 2);
        due("25: just two", x.wanted(0, 1), 98);
        Due.read(x, 1, "w=99");
        due("25: the last", x.wanted(0, 1), 99);
        Due.fill(x, 0, 16, 0, 1);
        due("25: none", x.wanted(0, 0), 0);
        due("25: none", x.wanted(0, 1), NONE);
        x.sheet(0, 8, 0);
        due("25: tells nothing", x.wanted(0, 0), 100);
        due("25: missing", x.wanted(1, 0), NONE);
        due("25: no such what", x.wanted(1, 2), BEYOND);
        due("25: no such what", x.wanted(0, -1), BEYOND);
        due("25: no such sheet", x.wanted(4, 0), BEYOND);
        due("25: no such sheet", x.wanted(-1, 0), BEYOND);
        due("25: only thought", x.count(2), 10);
    }

    private static void which() {
        BronzeDown x = new BronzeDown();
        x.visitor(6, 6, 1);
        x.figure(0, 50);
        Due.read(x, 0, "0");
        Due.read(x, 1, "w%10");
        int[] keeps = {3, 6, 1, 5, 6, 2, 10};
        for (int keep = 0; keep < 10; keep++) {
            int set = 0;
            for (int kind = 0; kind < 7; kind++) {
                set |= keeps[kind] % 10 == keep ? 1 << kind : 0;
            }
            Due.fill(x, 0, 8, (10 - keep) % 10 == 0 ? 0 : 10 - keep);
            due("26: kinds that keep " + keep, x.which(0, 0), set);
        }
        x.sheet(0, 8, 0);
        due("26: tells nothing", x.which(0, 0), 127);
        due("26: missing", x.which(1, 0), NONE);
        due("26: no such sheet", x.which(4, 0), BEYOND);
        due("26: no such sheet", x.which(-1, 0), BEYOND);
        due("26: no such visitor", x.which(1, 1), BEYOND);
        due("26: no such visitor", x.which(0, -1), BEYOND);
        due("26: only thought", x.ofVisitor(0, 0), 0);
    }

    private static void stair() {
        BronzeDown x = new BronzeDown();
        due("27: the set", x.stair(0), 416);
        due("27: how many", x.stair(1), 3);
        x.figure(3, 0);
        due("27: none is needed", x.stair(0), 0);
        due("27: none is needed", x.stair(1), 0);
        x.figure(3, 45);
        due("27: all but the one of 0", x.stair(0), 1022);
        due("27: all but the one of 0", x.stair(1), 9);
        x.figure(3, 46);
        due("27: none", x.stair(0), NONE);
        due("27: none", x.stair(1), NONE);
        due("27: no such what", x.stair(2), BEYOND);
        due("27: no such what", x.stair(-1), BEYOND);
        x.figure(3, 9);
        due("27: one", x.stair(0), 512);
        x.step(9, 1, 39);
        due("27: the least of two", x.stair(0), (1 << 4) + (1 << 5));
        x.step(0, 0, 9);
        due("27: another one", x.stair(0), 1);
    }

    private static void exact() {
        BronzeDown x = new BronzeDown();
        due("28: of 20", x.exact(), 44);
        x.figure(3, 0);
        due("28: none, and that of 0", x.exact(), 2);
        x.step(0, 1, 0);
        due("28: none", x.exact(), 1);
        x.figure(3, 3);
        due("28: of 3", x.exact(), 2);
        x.step(2, 1, 0);
        due("28: of 3 without 2", x.exact(), 1);
        x.step(1, 1, 0);
        x.figure(3, 1);
        due("28: of 1 without 1", x.exact(), 0);
        x.figure(3, 60);
        due("28: too high", x.exact(), 0);
        x.figure(3, 0);
        for (int s = 0; s < 10; s++) {
            x.step(s, 0, 0);
            x.step(s, 1, 99);
        }
        due("28: all", x.exact(), 1024);
    }

    private static void house() {
        BronzeDown x = new BronzeDown();
        x.trees(0, 1 + 2);
        x.trees(1, 1 + 4);
        x.trees(7, 128);
        Due.fill(x, 0, 8, 2);
        due("29: by row", x.house(0, 0), 16);
        due("29: by row", x.house(0, 1), 0);
        Due.fill(x, 0, 8, 1);
        due("29: by another row", x.house(0, 1), 56);
        Due.fill(x, 0, 16, 2, 2);
        due("29: by row and line", x.house(0, 0), 2);
        Due.fill(x, 0, 16, 2, 1);
        due("29: by row and another line", x.house(0, 0), 6);
        due("29: by row and another line", x.house(0, 1), 1);
        Due.fill(x, 0, 32, 2, 2, 2);
        due("29: in the corner", x.house(0, 0), 2);
        due("29: in the corner", x.house(0, 1), 0);
        Due.fill(x, 0, 32, 2, 1, 4);
        due("29: in the midst of four", x.house(0, 1), 9);
        due("29: in the midst of four", x.house(0, 0), 1);
        Due.fill(x, 0, 32, 1, 1, 0);
        due("29: nothing is next over the edge", x.house(0, 0), 3);
        due("29: the first of these", x.house(0, 1), 57);
        BronzeDown y = new BronzeDown();
        y.trees(4, 16);
        Due.fill(y, 0, 8, 0, 0, 1);
        due("29: next to a tree over a corner", y.house(0, 0), 4);
        due("29: next to a tree over a corner", y.house(0, 1), 27);
        Due.fill(y, 0, 8, 0, 1, 1);
        due("29: above and below it", y.house(0, 0), 2);
        due("29: above and below it", y.house(0, 1), 28);
        Due.fill(y, 0, 8, 1, 1, 0);
        due("29: on it", y.house(0, 1), 36);
        Due.fill(x, 0, 32, 2, 2, 2, 2);
        due("29: tells too much", x.house(0, 0), 0);
        due("29: tells too much", x.house(0, 1), NONE);
        Due.fill(x, 0, 8, 9);
        due("29: so many stand nowhere", x.house(0, 0), 0);
        x.sheet(0, 8, 0);
        due("29: tells nothing", x.house(0, 0), 64);
        due("29: missing", x.house(1, 0), NONE);
        due("29: no such what", x.house(1, 2), BEYOND);
        due("29: no such what", x.house(0, -1), BEYOND);
        due("29: no such sheet", x.house(4, 0), BEYOND);
    }

    private static void power() {
        BronzeDown x = new BronzeDown();
        due("30: none", x.power(0), BEYOND);
        x.visitor(0, 0, 1);
        due("30: one that is not loud", x.power(0), 0);
        x.change(0, 0, 1);
        due("30: one that is", x.power(0), 1);
        x.visitor(0, 1, 1);
        due("30: just half isn't enough", x.power(0), 1);
        due("30: just half isn't enough", x.power(1), 1);
        x.change(0, 0, 4);
        x.change(1, 0, 3);
        x.visitor(0, 2, 1);
        x.visitor(0, 1, 1);
        int[] orders = {10, 6, 6, 2};
        for (int i = 0; i < 4; i++) {
            due("30: of 4, 3, 2, 1", x.power(i), orders[i]);
        }
        due("30: no such", x.power(4), BEYOND);
        due("30: no such", x.power(-1), BEYOND);
        for (int i = 4; i < 8; i++) {
            x.visitor(0, 0, 1);
        }
        due("30: of eight", x.power(0), 10 * 1680);
        due("30: of eight", x.power(7), 0);
        for (int i = 0; i < 7; i++) {
            x.change(i, 0, 0);
        }
        x.change(7, 0, 1);
        due("30: alone", x.power(7), 40320);
        for (int i = 0; i < 8; i++) {
            x.change(i, 0, 9);
        }
        due("30: all alike", x.power(7), 5040);
    }

    private static void gait() {
        BronzeDown x = new BronzeDown();
        due("31: none", x.gait(0), 1);
        due("31: there and back", x.gait(2), 3);
        due("31: odd", x.gait(11), 0);
        x.figure(4, 0);
        due("31: from none up", x.gait(2), 4);
        due("31: from none up", x.gait(4), 32);
        x.figure(4, 5);
        due("31: from two up", x.gait(2), 2);
        int[] fallen = {3, 7, 11, 12, 13, 14, 15};
        for (int set : fallen) {
            x.figure(4, set);
            due("31: fallen at first", x.gait(0), 0);
            due("31: fallen at first", x.gait(2), 0);
        }
        due("31: below", x.gait(-1), BEYOND);
        due("31: above", x.gait(13), BEYOND);
        x.figure(4, 5);
        due("31: the most", x.gait(12), 32800);
    }

    private static void odds() {
        BronzeDown x = new BronzeDown();
        int[] above = {0, 1, 1, 3, 2, 1, 3, 7, 4, 9, 1};
        int[] below = {1, 10, 5, 10, 5, 2, 5, 10, 5, 10, 1};
        due("32: now", x.odds(0, 0, 0), 1);
        due("32: now", x.odds(0, 0, 1), 1);
        for (int v = 0; v <= 9; v++) {
            due("32: by " + v, x.odds(1, v, 0), above[v + 1]);
            due("32: by " + v, x.odds(1, v, 1), below[v + 1]);
        }
        x.figure(1, 1);
        due("32: never", x.odds(0, 0, 0), 0);
        due("32: never", x.odds(0, 0, 1), 1);
        int[][] wrong = {{-1, 0, 0}, {31, 0, 0}, {0, -1, 0}, {0, 100, 0}, {0, 0, -1}, {0, 0, 2}};
        for (int[] w : wrong) {
            due("32: wrong", x.odds(w[0], w[1], w[2]), BEYOND);
        }
        due("32: edges", x.odds(30, 99, 1), 1);
        due("32: only thought", x.count(2), 10);
    }

    private static void seed() {
        BronzeDown x = new BronzeDown();
        due("33: first", x.seed(LEAST), 1);
        due("33: any number, no error", x.seed(BEYOND), LEAST);
        due("33: any number, no error", x.seed(5), BEYOND);
        due("33: no error told", x.told(1), 0);
        due("33: z", x.count(10), 5);
    }

    /** By KIND and act: what it says of 5, being number 1 with m 2, and the BODIES. */
    private static void voice() {
        int[][] says = {{6, 12, 3, 15}, {18, 36, 3, 39}, {6, 13, 3, 14}, {6, 12, -3, -15}, {18, 36, 3, 30},
            {6, 15, 3, 12}, {6, 12, -4, 28}};
        String[] bodies = {"10 / 11 10 / 12 / 13 11 10 12",
            "20 10 / 11 20 10 / 12 / 13 11 20 10 12",
            "10 / 30 11 10 12 / 12 / 13 30 11 10 12 12",
            "10 / 11 10 / 40 12 / 13 11 10 40 12",
            "20 10 / 11 20 10 / 12 / 50 13 11 20 10 12 20 10",
            "10 / 60 30 11 10 12 / 12 / 13 60 30 11 10 12 12",
            "10 / 11 10 / 70 40 12 / 71 11 10 13 11 10 70 40 12"};
        BronzeDown x = new BronzeDown();
        x.visitor(0, 0, 1);
        x.visitor(0, 0, 1);
        for (int kind = 0; kind < 7; kind++) {
            x.become(1, 10 * kind + 2);
            String[] rows = bodies[kind].split(" / ");
            for (int act = 0; act < 4; act++) {
                due("34: a " + kind + " by " + act, x.voice(1, act, 5), says[kind][act]);
                String[] due = rows[act].split(" ");
                due("34: bodies of a " + kind + " by " + act, x.count(9), due.length);
                for (int i = 0; i < due.length; i++) {
                    due("35: body of a " + kind + " by " + act, x.trace(i), Integer.parseInt(due[i]));
                }
                due("35: none more", x.trace(due.length), NONE);
            }
        }
        x.become(1, 3);
        due("34: goes round", x.voice(1, 0, MOST), LEAST);
        due("34: goes round, no error", x.voice(1, 2, LEAST + 5), LEAST + 2);
        due("34: no error told", x.told(1), 0);
        due("34: no such visitor", x.voice(2, 0, 0), BEYOND);
        due("34: no such visitor", x.voice(-1, 0, 0), BEYOND);
        due("34: no such act", x.voice(0, 4, 0), BEYOND);
        due("34: no such act", x.voice(0, -1, 0), BEYOND);
        due("34: an error leaves the trace", x.trace(0), 12);
    }

    private static void trace() {
        BronzeDown x = new BronzeDown();
        due("35: none", x.trace(0), NONE);
        x.visitor(0, 0, 1);
        x.voice(0, 3, 0);
        x.voice(0, 0, 0);
        due("35: the latest alone", x.trace(0), 10);
        due("35: the latest alone", x.trace(1), NONE);
        due("35: below", x.trace(-1), NONE);
        due("35: far below", x.trace(LEAST), NONE);
        due("35: told", x.told(2), 4);
    }

    private static void sheet() {
        BronzeDown x = new BronzeDown();
        due("36: 8", x.sheet(0, 8, 40), 1);
        due("36: 16", x.sheet(1, 16, 0), 1);
        due("36: 32", x.sheet(3, 32, 1), 1);
        due("36: no such sheet", x.sheet(4, 8, 1), BEYOND);
        due("36: no such sheet, ahead of n below 0", x.sheet(-1, 8, -1), BEYOND);
        due("36: no such bits", x.sheet(0, 7, 1), BEYOND);
        due("36: no such bits, ahead of n below 0", x.sheet(0, 64, -1), BEYOND);
        due("36: below 0", x.sheet(0, 8, -1), STATE);
        due("36: far below 0", x.sheet(0, 32, LEAST), STATE);
        due("36: above", x.sheet(0, 8, 41), BEYOND);
        due("36: far above", x.sheet(0, 8, MOST), BEYOND);
        due("36: an error leaves it", x.put(0, 39, 1), 1);
        due("36: no more", x.put(0, 40, 1), BEYOND);
        Due.fill(x, 0, 8, 5, 5, 5);
        x.sheet(0, 8, 3);
        due("36: all 0", tallsOf(x, 0), 0);
        due("36: so many", x.talls(0), 3);
        due("36: missing, n doesn't matter", x.sheet(0, 0, -5), 1);
        due("36: missing", x.put(0, 0, 1), NONE);
        due("36: missing, n doesn't matter", x.sheet(1, 0, 77), 1);
        due("36: missing", x.talls(1), NONE);
    }

    private static void put() {
        BronzeDown x = new BronzeDown();
        x.visitor(0, 5, 1);
        int[] bits = {8, 16, 32};
        int[][] isFive = {{1, 0, 0}, {1, 1, 0}, {0, 0, 0}};
        for (int i = 0; i < 3; i++) {
            x.sheet(i, bits[i], 1);
            due("37: put", x.put(i, 0, 5), 1);
            due("37: it is so", x.judge(i), -1);
            int[] numbers = {5 + 256, 5 - 65536, 5 + 128};
            for (int k = 0; k < 3; k++) {
                due("37: put", x.put(i, 0, numbers[k]), 1);
                due("37: the lowest " + bits[i] + " bits of " + numbers[k], x.judge(i), isFive[k][i] == 1 ? -1 : 0);
            }
        }
        due("37: no such sheet", x.put(4, 0, 0), BEYOND);
        due("37: no such sheet", x.put(-1, 0, 0), BEYOND);
        due("37: missing", x.put(3, 99, 0), NONE);
        due("37: no such number", x.put(0, 1, 0), BEYOND);
        due("37: no such number", x.put(0, -1, 0), BEYOND);
    }

    private static int tallsOf(BronzeDown x, int sheet) {
        int n = x.talls(sheet);
        int digits = 0;
        for (int i = 0; i < n; i++) {
            digits = digits * 10 + x.ofStep(i, 0);
        }
        return digits;
    }

    private static void move() {
        BronzeDown x = new BronzeDown();
        Due.fill(x, 0, 8, 1, 2, 3, 4, 5);
        due("38: on itself, up", x.move(0, 0, 0, 1, 4), 4);
        due("38: as they all were", tallsOf(x, 0), 11234);
        due("38: on itself, down", x.move(0, 1, 0, 0, 4), 4);
        due("38: as they all were", tallsOf(x, 0), 12344);
        Due.fill(x, 1, 8, 9, 9, 9);
        due("38: to another", x.move(0, 2, 1, 1, 2), 2);
        due("38: to another", tallsOf(x, 1), 934);
        due("38: none", x.move(0, 5, 1, 3, 0), 0);
        due("38: none, but behind the end", x.move(0, 6, 1, 0, 0), BEYOND);
        Due.fill(x, 2, 16, 1, 1);
        due("38: no such sheet", x.move(4, 0, 0, 0, 0), BEYOND);
        due("38: no such sheet, ahead of a missing one", x.move(3, 0, -1, 0, 0), BEYOND);
        due("38: missing", x.move(3, 0, 0, 0, 0), NONE);
        due("38: missing, ahead of numbers", x.move(0, -1, 3, 0, 0), NONE);
        due("38: both missing", x.move(3, 0, 3, 0, 0), NONE);
        due("38: unlike, ahead of numbers", x.move(0, -1, 2, 0, 0), KIND);
        due("38: unlike", x.move(2, 0, 0, 0, 1), KIND);
        int[][] wrong = {{-1, 0, 1}, {0, -1, 1}, {0, 0, -1}, {0, 0, 4}, {3, 0, 3}, {0, 2, 2}, {MOST, 0, 1}, {0, MOST, 1},
            {1, 1, MOST}, {LEAST, 0, 1}, {0, 0, LEAST}};
        for (int[] w : wrong) {
            due("38: don't stand there", x.move(0, w[0], 1, w[1], w[2]), BEYOND);
        }
        due("38: an error moves none", tallsOf(x, 1), 934);
    }

    private static void talls() {
        BronzeDown x = new BronzeDown();
        Due.fill(x, 0, 16, 9, 8, 10, 7);
        due("39: up to the first that isn't", x.talls(0), 2);
        due("39: set", x.ofStep(0, 0), 9);
        due("39: set", x.ofStep(1, 0), 8);
        due("39: not set", x.ofStep(2, 0), 2);
        due("39: not set", x.ofStep(3, 0), 3);
        Due.fill(x, 0, 16, -1, 8);
        due("39: none", x.talls(0), 0);
        Due.fill(x, 1, 8, 0, 1, 2, 3, 4, 5, 6, 7, 8, 9, 3);
        due("39: no more than steps", x.talls(1), 10);
        x.sheet(1, 8, 0);
        due("39: an empty one", x.talls(1), 0);
        due("39: no such sheet", x.talls(4), BEYOND);
        due("39: no such sheet", x.talls(-1), BEYOND);
        due("39: missing", x.talls(3), NONE);
        due("39: no error told of the first", x.told(1) + x.told(2), 3);
    }

    private static void judge() {
        BronzeDown x = new BronzeDown();
        x.sheet(0, 8, 0);
        due("40: none and none", x.judge(0), -1);
        x.visitor(0, 3, 1);
        x.visitor(0, 4, 1);
        due("40: one lacks", x.judge(0), 0);
        Due.fill(x, 0, 8, 3);
        due("40: one lacks", x.judge(0), 1);
        Due.fill(x, 0, 8, 3, 4);
        due("40: all", x.judge(0), -1);
        Due.fill(x, 0, 8, 3, 4, 0);
        due("40: one too many", x.judge(0), 2);
        Due.fill(x, 0, 32, 3, 5);
        due("40: unlike", x.judge(0), 1);
        due("40: no such sheet", x.judge(4), BEYOND);
        due("40: missing", x.judge(1), NONE);
    }

    private static void imageAndRestore() {
        BronzeDown x = new BronzeDown();
        due("42: none", x.restore(), NONE);
        x.season(1, 0, 7);
        x.season(1, 1, 8);
        x.figure(0, 11);
        x.figure(1, 12);
        x.figure(2, 13);
        x.figure(3, 14);
        x.figure(4, 2);
        x.step(3, 0, 5);
        x.step(3, 1, 77);
        x.trees(2, 9);
        x.visitor(25, 6, 7);
        Due.read(x, 0, "9");
        Due.read(x, 1, "8");
        Due.write(x, "w+1");
        x.seed(99);
        x.tell(42);
        due("41: first", x.image(), 1);
        x.visitor(0, 1, 1);
        x.voice(0, 3, 1);
        x.sheet(0, 8, 2);
        int bodies = x.count(9);
        spoil(x);
        x.told(0);
        for (int round = 0; round < 2; round++) {
            due("42: year", x.restore(), 0);
            dueAsKept(x);
            due("42: the trace stays", x.count(9), bodies);
            due("42: sheets stay", x.talls(0), 2);
            due("42: told stays", x.told(1), 1);
            due("42: told stays", x.told(2), 1);
            spoil(x);
        }
        due("41: how often stays", x.image(), 2);
        due("42: in place of one ahead", x.restore(), x.count(1));
        due("42: in place of one ahead", x.count(0), 2);
    }

    private static void spoil(BronzeDown x) {
        x.season(1, 0, 1);
        x.season(1, 1, 1);
        for (int what = 0; what < 5; what++) {
            x.figure(what, 1);
        }
        x.step(3, 0, 1);
        x.step(3, 1, 1);
        x.trees(2, 1);
        x.become(0, 61);
        x.change(0, 0, 1);
        x.change(0, 1, 1);
        x.visitor(0, 0, 1);
        Due.read(x, 0, "1");
        Due.read(x, 1, "1");
        x.seed(1);
        x.check();
        x.years(5);
    }

    private static void dueAsKept(BronzeDown x) {
        due("42: heat", x.ofSeason(1, 0), 7);
        due("42: rain", x.ofSeason(1, 1), 8);
        for (int what = 0; what < 4; what++) {
            due("42: figure " + what, x.ofFigure(what), 11 + what);
        }
        due("42: feet", x.ofFigure(4), 2);
        due("42: tall", x.ofStep(3, 0), 5);
        due("42: bears", x.ofStep(3, 1), 77);
        due("42: trees", x.trees(2, 9), 9);
        due("42: visitors", x.count(0), 1);
        int[] visitor = {2, 5, 6, 7};
        for (int what = 0; what < 4; what++) {
            due("42: visitor " + what, x.ofVisitor(0, what), visitor[what]);
        }
        due("42: a text", x.law(0, 0, 0, 0), 9);
        due("42: the other text", x.law(1, 0, 0, 0), 8);
        due("42: tape", x.count(7), 3);
        due("42: tape's bytes", x.text(0), 1);
        due("42: tape's bytes", x.law(0, 4, 0, 0), 5);
        due("42: z", x.count(10), 99);
        due("42: numbers wait", x.count(8), 1);
    }

    private static void tellAndCheck() {
        BronzeDown x = new BronzeDown();
        due("44: none waits", x.check(), 0);
        for (int i = 1; i <= 20; i++) {
            due("43: how many", x.tell(x.then(i, 1)), i);
        }
        due("43: full", x.tell(0), FULL);
        due("44: all are so", x.check(), 0);
        due("44: none waits then", x.count(8), 0);
        x.tell(1);
        x.tell(2);
        x.tell(9);
        x.tell(9);
        due("44: the third isn't", x.check(), 3);
        due("44: none waits then", x.count(8), 0);
        due("43: any number", x.tell(LEAST), 1);
        due("44: the first isn't", x.check(), 1);
        due("44: only thought", x.count(1), 0);
        due("43: told", x.told(4), 1);
    }

    private static void count() {
        BronzeDown x = new BronzeDown();
        x.visitor(0, 7, 1);
        x.visitor(0, 9, 1);
        x.trees(0, 255);
        x.trees(5, 3);
        x.years(3);
        x.figure(0, 51);
        x.figure(1, 52);
        x.figure(2, 53);
        x.feed(0, 7);
        x.tell(1);
        x.tell(1);
        x.voice(0, 1, 1);
        x.seed(KIND);
        int[] due = {2, 3, 51, 52, 53, 16, 10, 7, 2, 2, KIND};
        for (int what = 0; what < due.length; what++) {
            due("45: " + what, x.count(what), due[what]);
        }
        due("45: no such", x.count(11), BEYOND);
        due("45: no such", x.count(-1), BEYOND);
        due("45: z is no error", x.told(5), 0);
    }

    private static void told() {
        BronzeDown x = new BronzeDown();
        x.restore();
        x.sheet(0, 8, -1);
        for (int i = 0; i < 9; i++) {
            x.visitor(0, 0, 1);
        }
        x.as(0, 6);
        x.as(0, 5);
        due("46: NONE", x.told(2), 1);
        due("46: STATE", x.told(3), 1);
        due("46: FULL", x.told(4), 1);
        due("46: KIND", x.told(5), 2);
        due("46: BEYOND", x.told(1), 0);
        due("46: another", x.told(0), BEYOND);
        due("46: another", x.told(6), BEYOND);
        due("46: another", x.told(LEAST), BEYOND);
        due("46: counted, too", x.told(1), 3);
    }
}
