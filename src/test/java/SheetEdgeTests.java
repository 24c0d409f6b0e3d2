/** The edges of voices, part 4 of the Terms, and promises 33 to 46: z, THE TRACE, SHEETS, IMAGES, what waits. */
public final class SheetEdgeTests {
    private static final int LEAST = Integer.MIN_VALUE;
    private static final int MOST = Integer.MAX_VALUE;
    private static final int[] BITS = {8, 16, 32};

    private SheetEdgeTests() {
    }

    public static void main(String[] args) {
        anyNumberIsNoError();
        voicesGoRound();
        voicesOfTheFirstAndTheLast();
        traceFromNoneOn();
        traceStays();
        missingAtFirst();
        sheetsOfNoneAndOfForty();
        lowestBits();
        movesOfAll();
        movesOverItself();
        tallsUpToTheFirst();
        tallsNoFurtherThanSteps();
        judgeNoneAndAll();
        judgeTheFirst();
        twentyWait();
        checkEachPlace();
        imagesInPlaceOfOneAhead();
        imageOfAFullOne();
        imageOfAnEmptyOne();
        imageOverTheYears();
        told();
        Due.end("SheetEdgeTests");
    }

    private static Calls withVisitors(int many) {
        Calls c = new Calls();
        for (int i = 0; i < many; i++) {
            c.ask("visitor", 0, i + 1, 1);
        }
        return c;
    }

    private static void anyNumberIsNoError() {
        Due.says("P33", "z becomes v: what it was (any number).");
        int[] any = {Due.BEYOND, Due.NONE, Due.STATE, Due.FULL, Due.KIND, Due.LOW, LEAST, -1, 0, MOST, 1};
        Calls c = withVisitors(1);
        int was = 1;
        for (int v : any) {
            Due.due("what it was", c.ask("seed", v), was);
            Due.due("z", c.ask("count", 10), v);
            Due.due("a VOICE of it", c.ask("voice", 0, 0, v), v);
            was = v;
        }
        for (int k = 1; k <= 5; k++) {
            Due.due("none is an ERROR told", c.ask("told", k), 0);
        }
    }

    private static void says(int kind, int number, int m, int act, int x, int due) {
        Calls c = withVisitors(number + 1);
        c.ask("become", number, 10 * kind + m);
        Due.due("act " + act + " of " + kind + ", n " + number + ", m " + m + ", of " + x, c.ask("voice", number, act, x), due);
    }

    private static void voicesGoRound() {
        Due.says("T3", "VOICES of a VISITOR, with a number x (ints that go round)");
        says(0, 0, 0, 0, MOST, MOST);
        says(0, 1, 0, 0, MOST, LEAST);
        says(0, 7, 0, 0, MOST, LEAST + 6);
        says(0, 0, 0, 1, 1 << 30, LEAST);
        says(0, 0, 0, 1, LEAST, 0);
        says(0, 7, 0, 1, MOST, 12);
        says(0, 0, 0, 2, LEAST, LEAST);
        says(0, 0, 1, 2, LEAST, MOST);
        says(0, 0, 9, 2, LEAST + 8, MOST);
        says(0, 7, 9, 3, MOST, 12 ^ MOST - 9);
        says(1, 0, 0, 0, MOST, MOST - 2);
        says(1, 0, 0, 0, LEAST, LEAST);
        says(1, 0, 0, 1, LEAST, 0);
        says(1, 0, 0, 0, 1431655766, 2);
        says(2, 0, 0, 1, 1 << 30, MOST);
        says(2, 0, 9, 1, 1073741823, LEAST + 6);
        says(3, 0, 0, 2, LEAST, LEAST);
        says(3, 0, 1, 2, LEAST, -MOST);
        says(4, 7, 0, 3, LEAST, (42 ^ LEAST) - 27);
        says(5, 0, 0, 1, MOST, -1);
        says(5, 0, 9, 1, (1 << 30) - 2, LEAST + 6);
        says(6, 7, 0, 2, LEAST, LEAST ^ 7);
        says(6, 7, 9, 3, LEAST, 14 - (14 ^ (9 - LEAST ^ 7)));
    }

    private static void voicesOfTheFirstAndTheLast() {
        Due.says("T3", "n is the number, m as told");
        for (int n = 0; n < 8; n++) {
            for (int m = 0; m <= 9; m += 3) {
                says(0, n, m, 0, 5, 5 + n);
                says(0, n, m, 2, 5, 5 - m);
                says(6, n, m, 2, 5, m - 5 ^ n);
                says(6, n, m, 3, 5, 2 * (5 + n) - (2 * (5 + n) ^ (m - 5 ^ n)));
                says(2, n, m, 1, 5, 2 * (5 + n) - (1 - m));
                says(4, n, m, 3, 5, (6 * (5 + n) ^ 5 - m) - 3 * (2 + n));
            }
        }
    }

    /** No VISITOR has a VOICE of more than nine BODIES: THE TRACE can't come to 40, and holds them all. */
    private static void traceFromNoneOn() {
        Due.says("T3", "THE TRACE: the numbers of BODIES of the latest voice(), as they began .. the first 40.");
        int[][] many = {{1, 2, 1, 4}, {2, 3, 1, 5}, {1, 4, 1, 6}, {1, 2, 2, 5}, {2, 3, 1, 8}, {1, 5, 1, 7}, {1, 2, 3, 9}};
        int[][] first = {{10, 11, 12, 13}, {20, 11, 12, 13}, {10, 30, 12, 13}, {10, 11, 40, 13}, {20, 11, 12, 50},
            {10, 60, 12, 13}, {10, 11, 70, 71}};
        int[][] last = {{10, 10, 12, 12}, {10, 10, 12, 12}, {10, 12, 12, 12}, {10, 10, 12, 12}, {10, 10, 12, 10},
            {10, 12, 12, 12}, {10, 10, 12, 12}};
        Calls c = withVisitors(1);
        Due.due("none at first", c.ask("count", 9), 0);
        Due.due("none at first", c.ask("trace", 0), Due.NONE);
        for (int kind = 0; kind < 7; kind++) {
            c.ask("become", 0, 10 * kind);
            for (int act = 0; act < 4; act++) {
                c.ask("voice", 0, act, 1);
                String what = "act " + act + " of " + kind;
                Due.due("how many, " + what, c.ask("count", 9), many[kind][act]);
                Due.due("the first, " + what, c.ask("trace", 0), first[kind][act]);
                Due.due("the last, " + what, c.ask("trace", many[kind][act] - 1), last[kind][act]);
                Due.due("behind the last, " + what, c.ask("trace", many[kind][act]), Due.NONE);
                Due.due("ahead of the first, " + what, c.ask("trace", -1), Due.NONE);
            }
        }
        for (int i : new int[] {39, 40, 41, LEAST, MOST}) {
            Due.due("none such", c.ask("trace", i), Due.NONE);
        }
    }

    private static void traceStays() {
        Due.says("T3", "THE TRACE: .. of the latest voice()");
        Calls c = withVisitors(2);
        c.ask("become", 0, 60);
        c.ask("image");
        c.ask("voice", 0, 3, 1);
        Due.due("nine", c.ask("count", 9), 9);
        Due.due("refused", c.ask("voice", 2, 0, 0), Due.BEYOND);
        Due.due("refused", c.ask("voice", 0, 4, 0), Due.BEYOND);
        Due.due("nine, for that one is refused", c.ask("count", 9), 9);
        c.ask("become", 0, 0);
        Due.due("nine, though it has become another", c.ask("trace", 8), 12);
        c.ask("restore");
        Due.due("nine, for IMAGES don't keep it", c.ask("count", 9), 9);
        c.ask("voice", 1, 2, 1);
        Due.due("one", c.ask("count", 9), 1);
        Due.due("one", c.ask("trace", 1), Due.NONE);
    }

    private static void missingAtFirst() {
        Due.says("T4", "SHEETS 0 .. 3 are rows of 8, 16, 32 bits, at most 40 numbers, or missing (as at first).");
        Calls c = withVisitors(1);
        for (int s = 0; s < 4; s++) {
            for (int round = 0; round < 2; round++) {
                Due.due("wanted", c.ask("wanted", s, 0), Due.NONE);
                Due.due("which", c.ask("which", s, 0), Due.NONE);
                Due.due("house", c.ask("house", s, 0), Due.NONE);
                Due.due("put", c.ask("put", s, 0, 1), Due.NONE);
                Due.due("move", c.ask("move", s, 0, s, 0, 0), Due.NONE);
                Due.due("talls", c.ask("talls", s), Due.NONE);
                Due.due("judge", c.ask("judge", s), Due.NONE);
                Due.due("there", c.ask("sheet", s, BITS[s % 3], 40), 1);
                Due.due("put", c.ask("put", s, 39, 1), 1);
                Due.due("missing again", c.ask("sheet", s, 0, 40), 1);
            }
        }
        for (int s : new int[] {-1, 4}) {
            Due.due("no such", c.ask("sheet", s, 8, 1), Due.BEYOND);
        }
    }

    /** A number of a SHEET of so many bits, by way of SHEET 3; -1 if it is not 0 to 9. */
    private static int number(Calls c, int sheet, int bits, int i) {
        c.ask("sheet", 3, bits, 1);
        c.ask("put", 3, 0, 10);
        c.ask("move", sheet, i, 3, 0, 1);
        return c.ask("talls", 3) == 1 ? c.ask("ofStep", 0, 0) : -1;
    }

    private static void sheetsOfNoneAndOfForty() {
        Due.says("P36", "A SHEET has n numbers, all 0, of so many bits (8, 16, 32; 0: it is missing, n doesn't matter): 1.");
        for (int bits : BITS) {
            for (int n : new int[] {0, 1, 39, 40}) {
                Calls c = new Calls();
                Due.due("of 40", c.ask("sheet", 2, bits, 40), 1);
                for (int i = 0; i < 40; i++) {
                    c.ask("put", 2, i, i % 8 + 1);
                }
                Due.due("of " + n, c.ask("sheet", 2, bits, n), 1);
                Due.due("behind the last", c.ask("put", 2, n, 5), Due.BEYOND);
                for (int i = 0; i < n; i++) {
                    Due.due("all 0, of " + n, number(c, 2, bits, i), 0);
                }
                Due.due("the last", c.ask("put", 2, n - 1, 5), n > 0 ? 1 : Due.BEYOND);
                Due.due("of 40 again", c.ask("sheet", 2, bits, 40), 1);
                Due.due("all 0 again", number(c, 2, bits, Math.max(0, n - 1)), 0);
                Due.due("all 0 again", number(c, 2, bits, 39), 0);
            }
        }
    }

    private static void lowestBits() {
        Due.says("P37", "Number i of a SHEET becomes v (its lowest bits): 1.");
        int[] numbers = {5, 5 + (1 << 7), 5 + (1 << 8), 5 - (1 << 8), 5 + (1 << 15), 5 + (1 << 16), 5 - (1 << 16),
            5 + LEAST, LEAST, -1, MOST, 255, 65535, 1 << 16};
        int[][] are = {{5, 5, 5}, {-1, -1, -1}, {5, -1, -1}, {5, -1, -1}, {5, -1, -1}, {5, 5, -1}, {5, 5, -1},
            {5, 5, -1}, {0, 0, -1}, {-1, -1, -1}, {-1, -1, -1}, {-1, -1, -1}, {-1, -1, -1}, {0, 0, -1}};
        for (int b = 0; b < 3; b++) {
            Calls c = withVisitors(5);
            for (int i = 0; i < 4; i++) {
                c.ask("change", i, 0, 0);
            }
            c.ask("sheet", 1, BITS[b], 5);
            for (int i = 0; i < numbers.length; i++) {
                String what = numbers[i] + " of " + BITS[b] + " bits";
                Due.due(what, c.ask("put", 1, 4, numbers[i]), 1);
                Due.due(what, number(c, 1, BITS[b], 4), are[i][b]);
                Due.due(what, c.ask("judge", 1), are[i][b] == 5 ? -1 : 4);
            }
        }
    }

    private static void movesOfAll() {
        Due.says("P38", "n numbers of a SHEET, from number i on, come to another one (or the same), from its number j on");
        for (int kind = 0; kind < 3; kind++) {
            Calls c = new Calls();
            c.ask("sheet", kind, BITS[kind], 40);
            for (int i = 0; i < 40; i++) {
                c.ask("put", kind, i, (7 * i + i / 10) % 10);
            }
            int other = (kind + 1) % 3;
            c.ask("sheet", other, BITS[kind], 40);
            Due.due("all", c.ask("move", kind, 0, other, 0, 40), 40);
            Due.due("none", c.ask("move", kind, 0, other, 40, 0), 0);
            Due.due("none", c.ask("move", kind, 40, other, 0, 0), 0);
            Due.due("one too many", c.ask("move", kind, 0, other, 0, 41), Due.BEYOND);
            Due.due("one too many", c.ask("move", kind, 1, other, 0, 40), Due.BEYOND);
            Due.due("one too many", c.ask("move", kind, 0, other, 1, 40), Due.BEYOND);
            Due.due("the last", c.ask("move", kind, 39, other, 0, 1), 1);
            Due.due("to the last", c.ask("move", kind, 0, other, 39, 1), 1);
            for (int i = 0; i < 40; i++) {
                int from = i == 0 ? 39 : i == 39 ? 0 : i;
                Due.due("number " + i, number(c, other, BITS[kind], i), (7 * from + from / 10) % 10);
            }
        }
    }

    private static void movesOverItself() {
        Due.says("P38", "come to another one (or the same) .. as they all were: n");
        int[][] by = {{0, 1, 39}, {1, 0, 39}, {0, 3, 37}, {3, 0, 37}, {0, 20, 20}, {20, 0, 20}, {5, 5, 35}, {10, 15, 8}};
        for (int[] b : by) {
            Calls c = new Calls();
            c.ask("sheet", 0, 8, 40);
            int[] were = new int[40];
            for (int i = 0; i < 40; i++) {
                were[i] = (3 * i + i / 10) % 10;
                c.ask("put", 0, i, were[i]);
            }
            Due.due("over itself", c.ask("move", 0, b[0], 0, b[1], b[2]), b[2]);
            int[] are = were.clone();
            System.arraycopy(were, b[0], are, b[1], b[2]);
            for (int i = 0; i < 40; i++) {
                Due.due("number " + i + " from " + b[0] + " to " + b[1], number(c, 0, 8, i), are[i]);
            }
        }
    }

    private static void tallsUpToTheFirst() {
        Due.says("P39", "how many, up to the first that is not 0 to 9 (no ERROR then)");
        for (int bits : BITS) {
            for (int wrong : new int[] {-1, 10, 127, -128}) {
                for (int at = 0; at < 11; at++) {
                    Calls c = new Calls();
                    c.ask("sheet", 0, bits, 11);
                    for (int i = 0; i < 11; i++) {
                        c.ask("put", 0, i, i == at ? wrong : 9 * (i % 2));
                    }
                    Due.due(wrong + " at " + at, c.ask("talls", 0), Math.min(at, 10));
                    for (int i = 0; i < 10; i++) {
                        Due.due("TALL of " + i, c.ask("ofStep", i, 0), i < at ? 9 * (i % 2) : i);
                        Due.due("BEARS stays", c.ask("ofStep", i, 1), 50);
                    }
                    for (int k = 1; k <= 5; k++) {
                        Due.due("no ERROR", c.ask("told", k), 0);
                    }
                }
            }
        }
    }

    private static void tallsNoFurtherThanSteps() {
        Due.says("P39", "or for which there is no STEP");
        for (int n : new int[] {0, 1, 9, 10, 11, 40}) {
            Calls c = new Calls();
            c.ask("sheet", 0, 16, n);
            for (int i = 0; i < n; i++) {
                c.ask("put", 0, i, 9 - i % 10);
            }
            Due.due("of " + n, c.ask("talls", 0), Math.min(n, 10));
            for (int i = 0; i < 10; i++) {
                Due.due("TALL of " + i, c.ask("ofStep", i, 0), i < n ? 9 - i : i);
            }
        }
    }

    private static void judgeNoneAndAll() {
        Due.says("P40", "the first that isn't so (one that lacks, or is too many, too); -1: all are.");
        for (int bits : BITS) {
            for (int visitors : new int[] {0, 1, 7, 8}) {
                for (int n : new int[] {0, 1, 6, 7, 8, 9, 40}) {
                    Calls c = withVisitors(visitors);
                    c.ask("sheet", 0, bits, n);
                    for (int i = 0; i < n; i++) {
                        c.ask("put", 0, i, i < visitors ? i + 1 : 0);
                    }
                    int due = n == visitors ? -1 : Math.min(n, visitors);
                    Due.due(n + " numbers, " + visitors + " VISITORS", c.ask("judge", 0), due);
                    Due.due("no ERROR", c.ask("told", 1) + c.ask("told", 2), 0);
                }
            }
        }
    }

    private static void judgeTheFirst() {
        Due.says("P40", "Numbers of a SHEET are LOUD of VISITORS 0, 1, ..: the first that isn't so");
        Calls c = withVisitors(8);
        for (int at = 0; at < 8; at++) {
            c.fill(0, 8, 1, 2, 3, 4, 5, 6, 7, 8);
            c.ask("put", 0, 7, at == 7 ? 7 : 0);
            c.ask("put", 0, at, at);
            Due.due("at " + at, c.ask("judge", 0), at);
            c.ask("put", 0, at, at + 2);
            Due.due("at " + at, c.ask("judge", 0), at);
            c.ask("put", 0, at, at + 1);
            Due.due("but for " + at, c.ask("judge", 0), at == 7 ? -1 : 7);
        }
    }

    private static void twentyWait() {
        Due.says("P43", "One more number waits: how many. FULL: 20 wait.");
        Calls c = new Calls();
        int[] any = {LEAST, Due.BEYOND, -1, 0, 1, 99, 100, MOST};
        for (int i = 0; i < 20; i++) {
            Due.due("how many", c.ask("tell", any[i % any.length]), i + 1);
            Due.due("how many", c.ask("count", 8), i + 1);
        }
        Due.due("a 21st", c.ask("tell", 0), Due.FULL);
        Due.due("20", c.ask("count", 8), 20);
        Due.due("the first isn't so", c.ask("check"), 1);
        Due.says("P44", "The numbers that wait (none do then)");
        Due.due("none", c.ask("count", 8), 0);
        Due.due("none", c.ask("check"), 0);
        Due.due("the first again", c.ask("tell", 5), 1);
    }

    private static void checkEachPlace() {
        Due.says("P44", "are LEAN behind 1, 2, .. YEARS: 0; else 1 and the place (from 0) of the first that isn't so.");
        for (int year : new int[] {0, 9999}) {
            Calls c = States.ofYear(year, "0", "3");
            for (int wrong = 0; wrong < 20; wrong += wrong == 1 ? 17 : 1) {
                for (int i = 0; i < 20; i++) {
                    c.ask("tell", 3 * i + (i == wrong ? 4 : 3));
                }
                Due.due("at " + wrong, c.ask("check"), wrong + 1);
            }
            for (int i = 0; i < 20; i++) {
                c.ask("tell", 3 * i + 3);
            }
            Due.due("all 20 are so", c.ask("check"), 0);
            c.ask("tell", 3);
            Due.due("one is so", c.ask("check"), 0);
            c.ask("tell", 0);
            Due.due("LEAN now isn't LEAN behind 1", c.ask("check"), 1);
            Due.due("none is so", c.ask("check"), 0);
            Due.due("only thought", c.ask("count", 3) + c.ask("count", 1), year);
        }
        Calls c = States.ofYear(0, "0", "9");
        c.ask("figure", 1, 98);
        c.ask("tell", 99);
        c.ask("tell", 99);
        Due.due("99 at most", c.ask("check"), 0);
    }

    private static void imagesInPlaceOfOneAhead() {
        Due.says("P41", "in place of one ahead: how often that was done");
        Calls c = new Calls();
        Due.due("none", c.ask("restore"), Due.NONE);
        for (int i = 1; i <= 30; i++) {
            c.ask("figure", 0, i);
            Due.due("how often", c.ask("image"), i);
        }
        c.ask("figure", 0, 99);
        Due.says("P42", "All is as the IMAGE has it, which stays: YEAR.");
        for (int i = 0; i < 3; i++) {
            Due.due("YEAR", c.ask("restore"), 0);
            Due.due("the latest", c.ask("count", 2), 30);
            c.ask("years", 1);
        }
        Due.due("how often stays", c.ask("image"), 31);
        Due.due("YEAR of the latest", c.ask("restore"), 1);
    }

    private static void imageOfAFullOne() {
        Due.says("P41", "All (but SHEETS, THE TRACE, what told() tells, and how often this was done) is kept as an IMAGE");
        Calls c = withVisitors(8);
        c.write(States.FIFTY);
        for (int i = 0; i < 20; i++) {
            c.ask("tell", c.ask("then", i + 1, 1));
        }
        c.ask("image");
        for (int round = 0; round < 2; round++) {
            Due.due("THE TAPE is full", c.askWith(0, "feed", 1), Due.FULL);
            Due.due("20 wait", c.ask("tell", 0), Due.FULL);
            Due.due("8 VISITORS", c.ask("visitor", 0, 0, 1), Due.FULL);
            Due.due("they are so", c.ask("check"), 0);
            Due.due("none waits", c.ask("count", 8), 0);
            Due.due("THE TAPE as it was", c.ask("text", 0), 1);
            Due.due("THE TAPE as it was", c.ask("law", 0, 7, 5, 3), 14);
            for (int i = 0; i < 8; i++) {
                Due.due("LOUD", c.ask("change", i, 0, 0), i + 1);
            }
            c.write("0");
            c.ask("tell", -1);
            c.ask("voice", 0, 3, 1);
            c.ask("sheet", round, 8, 40);
            Due.due("YEAR", c.ask("restore"), 0);
            Due.due("what told() tells stays", c.ask("told", 4), 3 * round + 3);
            Due.due("THE TRACE stays", c.ask("count", 9), 4);
            Due.due("SHEETS stay", c.ask("put", round, 39, 1), 1);
            Due.due("the TEXT is gone", c.ask("law", 0, 7, 5, 3), 5);
        }
    }

    private static void imageOfAnEmptyOne() {
        Due.says("P42", "All is as the IMAGE has it");
        Calls c = new Calls();
        c.ask("image");
        c.read(0, "7");
        c.read(1, "7");
        for (int i = 0; i < 8; i++) {
            c.ask("visitor", 10, 9, 1);
            c.ask("trees", i, 255);
        }
        for (int s = 0; s < 10; s++) {
            c.ask("step", s, 0, 9 - s);
            c.ask("step", s, 1, 99);
        }
        for (int s = 0; s < 6; s++) {
            c.ask("season", s, 0, 9);
            c.ask("season", s, 1, 9);
        }
        c.ask("figure", 3, 60);
        c.ask("figure", 4, 15);
        c.ask("seed", 0);
        c.write(States.FIFTY);
        for (int i = 0; i < 20; i++) {
            c.ask("tell", i);
        }
        c.ask("years", 9);
        Due.due("YEAR", c.ask("restore"), 0);
        asAtFirst(c);
    }

    private static void asAtFirst(Calls c) {
        int[] counts = {0, 0, 10, 0, 0, 0, 0, 0, 0, 0, 1};
        for (int what = 0; what < counts.length; what++) {
            Due.due("count " + what, c.ask("count", what), counts[what]);
        }
        int[] figure = {10, 0, 0, 20, 1, 40, 3, 1};
        for (int what = 0; what < figure.length; what++) {
            Due.due("figure " + what, c.ask("ofFigure", what), figure[what]);
        }
        for (int s = 0; s < 10; s++) {
            Due.due("TALL", c.ask("ofStep", s, 0), s);
            Due.due("BEARS", c.ask("ofStep", s, 1), 50);
        }
        for (int s = 0; s < 6; s++) {
            Due.due("HEAT", c.ask("ofSeason", s, 0), 3);
            Due.due("RAIN", c.ask("ofSeason", s, 1), s);
        }
        Due.due("no TEXT", c.ask("law", 0, 0, 4, 0), 4);
        Due.due("no TEXT", c.ask("law", 1, 44, 0, 0), 4);
        Due.due("no VISITOR", c.ask("ofVisitor", 0, 0), Due.BEYOND);
        Due.due("an empty TAPE", c.ask("text", 0), -10);
    }

    private static void imageOverTheYears() {
        Due.says("P42", "All is as the IMAGE has it, which stays: YEAR.");
        Calls c = States.ofYear(9999);
        c.ask("image");
        Due.due("9999", c.ask("restore"), 9999);
        Due.due("none more", c.ask("years", 1), Due.STATE);
        Calls other = new Calls();
        other.ask("image");
        for (int i = 0; i < 167; i++) {
            other.ask("years", i < 166 ? 60 : 39);
        }
        Due.due("none more", other.ask("years", 1), Due.STATE);
        Due.due("0", other.ask("restore"), 0);
        Due.due("again", other.ask("years", 60), 99);
    }

    private static void told() {
        Due.says("P46", "How many acts have answered an ERROR LOW - k (k 1 .. 5); BEYOND: another k (counted, too).");
        Calls c = States.of(States.FULL);
        String[] names = {"ofFigure", "talls", "sheet", "tell", "as"};
        int[][] of = {{8}, {3}, {0, 8, -1}, {0}, {0, 6}};
        for (int k = 1; k <= 5; k++) {
            Due.due("none of " + k, c.ask("told", k), 0);
            for (int times = 1; times <= 3 * k; times++) {
                Due.due("refused", c.ask(names[k - 1], of[k - 1]), Due.LOW - k);
                Due.due("one more of " + k, c.ask("told", k), times);
            }
        }
        int beyond = 3;
        for (int k : new int[] {0, 6, -1, LEAST, MOST}) {
            Due.due("another k", c.ask("told", k), Due.BEYOND);
            beyond++;
            Due.due("counted, too", c.ask("told", 1), beyond);
        }
        for (int k = 2; k <= 5; k++) {
            Due.due("the others stay", c.ask("told", k), 3 * k);
        }
    }
}
