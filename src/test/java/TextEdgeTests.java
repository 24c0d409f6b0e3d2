/** The edges of part 2 of the Terms, and of promises 14 to 16: THE TAPE, TEXTS, their FAULTS, and what a USE gives. */
public final class TextEdgeTests {
    private static final int LEAST = Integer.MIN_VALUE;
    private static final int MOST = Integer.MAX_VALUE;
    private static final String BYTES = "\0\t\n !\"#$%&'()*+,-./0123456789:;<=>?@AFHLW[]^_abfghlmwz{|}~\u007f\u0080\u00b7\u00ff";

    private TextEdgeTests() {
    }

    public static void main(String[] args) {
        tapeHasRoomForFifty();
        bytesOfAWord();
        tapeIsEmptyThen();
        numbers();
        names();
        noBlanks();
        oneComparison();
        fiveOpen();
        faultAtTheFirstByte();
        faultInTheMidst();
        faultAtTheEnd();
        eachByteAtEachPlace();
        refusedTextChangesNothing();
        intsThatWrap();
        cut();
        byZero();
        truth();
        allIsWorkedOut();
        held();
        heldInAYear();
        withoutAText();
        Due.end("TextEdgeTests");
    }

    private static String times(int n, String signs) {
        StringBuilder s = new StringBuilder();
        for (int i = 0; i < n; i++) {
            s.append(signs);
        }
        return s.toString();
    }

    private static void tapeHasRoomForFifty() {
        Due.says("T2", "TEXTS are read from THE TAPE (bytes, at most 50)");
        for (int n = 1; n <= 8; n++) {
            Calls c = new Calls();
            for (int size = n; size <= 50; size += n) {
                Due.due("by " + n, c.askWith(-1L, "feed", n), size);
            }
            int size = 50 / n * n;
            Due.due("to 51 or more, by " + n, size + n > 50 ? c.askWith(-1L, "feed", n) : Due.FULL, Due.FULL);
            Due.due("the tape stays", c.ask("count", 7), size);
            for (int i = size + 1; i <= 50; i++) {
                Due.due("one more", c.askWith(-1L, "feed", 1), i);
            }
            for (int k = 1; k <= 8; k++) {
                Due.due("the tape is full, for " + k, c.askWith(-1L, "feed", k), Due.FULL);
            }
            Due.due("full", c.ask("count", 7), 50);
        }
        Calls c = new Calls();
        c.write(times(48, "7"));
        Due.due("48 and 3", c.askWith(0, "feed", 3), Due.FULL);
        Due.due("48 and 2", c.askWith(0, "feed", 2), 50);
        c = new Calls();
        c.write(times(49, "7"));
        Due.due("49 and 2", c.askWith(0, "feed", 2), Due.FULL);
        Due.due("49 and 1", c.askWith(0, "feed", 1), 50);
        c = new Calls();
        Due.due("a text of 50 bytes", c.read(0, States.FIFTY), 1);
        Due.due("a text of 50 bytes", c.ask("law", 0, 7, 5, 3), 14);
        Due.due("the last of 50 bytes", c.read(0, times(24, "1+") + "1h"), -10 - 49);
        Due.due("the 50th counts", c.read(0, times(24, "0+") + "17"), 1);
        Due.due("the 50th counts", c.ask("law", 0, 0, 0, 0), 17);
    }

    private static void bytesOfAWord() {
        Due.says("P14", "The n lowest bytes (1 .. 8) of a word, the lowest first");
        String signs = "12345678";
        long word = 0x3837363534333231L;
        for (int n = 1; n <= 4; n++) {
            Calls c = new Calls();
            Due.due("so many", c.askWith(word, "feed", n), n);
            Due.due("a number", c.ask("text", 0), 1);
            c.write(signs.substring(0, n));
            Due.due("as byte by byte", c.ask("text", 1), 1);
        }
        Calls c = new Calls();
        c.write("w-");
        c.askWith(word, "feed", 4);
        c.ask("text", 0);
        Due.due("in order", c.ask("law", 0, 1234 + 7, 0, 0), 7);
        c.askWith(word, "feed", 8);
        Due.due("five digits", c.ask("text", 0), -14);
        Due.due("the highest", c.askWith(0x772B772B772B772BL, "feed", 8), 8);
        Due.due("a sign is first", c.ask("text", 0), -10);
        c.askWith(0x2B772B772B772B77L, "feed", 7);
        Due.due("seven of eight", c.ask("text", 0), 1);
        c.askWith(0x2B772B772B772B77L, "feed", 8);
        Due.due("eight of eight end too early", c.ask("text", 0), -18);
        Due.due("a word below 0", c.askWith(0x8000000000000077L, "feed", 1), 1);
        Due.due("its lowest byte alone", c.ask("text", 0), 1);
        c.askWith(0x8000000000000077L, "feed", 8);
        Due.due("its other bytes, too", c.ask("text", 0), -11);
        c.askWith(0xFF31L, "feed", 2);
        Due.due("a byte of 255", c.ask("text", 0), -11);
    }

    private static void tapeIsEmptyThen() {
        Due.says("P15", "THE TAPE, which is empty then, is the TEXT of a USE (0, 1), in place of one ahead: 1.");
        Calls c = new Calls();
        for (int use = 0; use < 2; use++) {
            Due.due("a text", c.read(use, "1"), 1);
            Due.due("empty then", c.ask("count", 7), 0);
            Due.due("in place of one ahead", c.read(use, "2"), 1);
            Due.due("in place of one ahead", c.ask("law", use, 0, 0, 0), 2);
            Due.due("a longer one", c.read(use, "w+h+1+2-3"), 1);
            Due.due("in place of it", c.read(use, "w"), 1);
            Due.due("in place of it", c.ask("law", use, 3, 4, 0), 3);
        }
        Due.due("the other stays", c.read(0, "5"), 1);
        Due.due("the other stays", c.ask("law", 1, 3, 4, 0), 3);
        Due.says("T2", "FAULT: .. how many there are, if it ends too early.");
        Due.due("an empty tape", c.ask("text", 0), -10);
        Due.due("an empty tape", new Calls().ask("text", 1), -10);
        Due.due("the one ahead stays", c.ask("law", 0, 0, 0, 0), 5);
    }

    private static void text(String signs, int due) {
        Calls c = new Calls();
        Due.due("of " + signs, c.read(0, signs), due);
    }

    private static void gives(String signs, int a, int b, int l, int due) {
        Calls c = new Calls();
        Due.due("of " + signs, c.read(0, signs), 1);
        Due.due("of " + signs + " by " + a + ", " + b + ", " + l, c.ask("law", 0, a, b, l), due);
    }

    private static void numbers() {
        Due.says("T2", "a NUMBER of 1 to 4 digits");
        gives("0", 0, 0, 0, 0);
        gives("9", 0, 0, 0, 9);
        gives("10-9", 0, 0, 0, 1);
        gives("100-99", 0, 0, 0, 1);
        gives("1000-999", 0, 0, 0, 1);
        gives("9999-9989", 0, 0, 0, 10);
        gives("0009", 0, 0, 0, 9);
        gives("0000", 0, 0, 0, 0);
        text("00009", -14);
        text("10000", -14);
        text("w+99999", -16);
        text("1234w", -14);
        text("1w", -11);
    }

    private static void names() {
        Due.says("T2", "0 YEARNS, NAMES w WANT, h HEAT of the SEASON, l LEAN");
        gives("w-h-l", 20, 6, 2, 12);
        text("f", -10);
        text("w+f", -12);
        Due.says("T2", "1 SHIFTS, NAMES w WANT (behind (2)), h HEAT of the SEASON, f HAT (as the YEAR began)");
        Calls c = new Calls();
        Due.due("f", c.read(1, "w-h-f"), 1);
        Due.due("f", c.ask("law", 1, 17, 6, 2), 9);
        Due.due("l", c.read(1, "l"), -10);
        Due.due("l", c.read(1, "w+(l)"), -13);
        for (String other : new String[] {"W", "H", "L", "F", "x", "k", "m", "g", "i", "v"}) {
            Due.due("no name " + other, c.read(0, other), -10);
            Due.due("no name " + other, c.read(1, other), -10);
        }
    }

    private static void noBlanks() {
        Due.says("T2", "No blanks.");
        text(" w", -10);
        text("w ", -11);
        text("w +1", -11);
        text("w+ 1", -12);
        text("( w)", -11);
        text("(w )", -12);
        text("! w", -11);
        text("1 2", -11);
        text("\tw", -10);
        text("w\n", -11);
        text("w\0", -11);
    }

    private static void oneComparison() {
        Due.says("T2", "B: S, or S < S, S = S, S > S");
        for (char first : new char[] {'<', '=', '>'}) {
            gives("1" + first + "1", 0, 0, 0, first == '=' ? 1 : 0);
            for (char second : new char[] {'<', '=', '>'}) {
                text("1" + first + "2" + second + "3", -13);
                text("(1" + first + "2)" + second + "3", 1);
                text("1" + first + "(2" + second + "3)", 1);
                text("1" + first + "2&3" + second + "4", 1);
                text("1" + first + "2|3" + second + "4", 1);
                text("1" + first + "2+3" + second + "4", -15);
                text("1" + first + second + "2", -12);
            }
        }
    }

    private static void fiveOpen() {
        Due.says("T2", "At most 5 of ! and ( are open at once.");
        gives("((((7))))", 0, 0, 0, 7);
        gives("(((((7)))))", 0, 0, 0, 7);
        text("((((((7))))))", -15);
        gives("!!!!0", 0, 0, 0, 0);
        gives("!!!!!0", 0, 0, 0, 1);
        text("!!!!!!0", -15);
        text("!!!!!(0)", -15);
        text("(((((!0)))))", -15);
        gives("!(!(!0))", 0, 0, 0, 1);
        text("!(!(!(0)))", -15);
        text("(!(!(!0)))", -15);
        gives("((!!(w)))", 5, 0, 0, 1);
        Due.says("T2", "At most 5 of ! and ( are open at once.");
        // Those that are closed aren't open.
        gives("(((((1)))))+(((((2)))))", 0, 0, 0, 3);
        gives("!!!!!0+!!!!!0", 0, 0, 0, 2);
        gives("((((!0+!0+(0)+(1)))))", 0, 0, 0, 3);
        gives("((((!0)+!0)+!0)+!0)", 0, 0, 0, 4);
        text("((((!0+!!0))))", -18);
        text("((((!0+(!0)))))", -18);
        text("((((!0+(0)+((1))))))", -22);
        text("((((!0+(0)+(1)+(!0)))))", -26);
    }

    private static void faultAtTheFirstByte() {
        Due.says("P15", "-10 less the FAULT (no ERROR; the one ahead stays; THE TAPE is empty, too).");
        for (int i = 0; i < BYTES.length(); i++) {
            char b = BYTES.charAt(i);
            boolean begins = b >= '0' && b <= '9' || b == 'w' || b == 'h' || b == 'l';
            boolean endsEarly = b == '!' || b == '(';
            text(String.valueOf(b), begins ? 1 : endsEarly ? -11 : -10);
            text(b + "w", begins ? -11 : b == '!' ? 1 : endsEarly ? -12 : -10);
        }
    }

    private static void faultInTheMidst() {
        Due.says("T2", "FAULT: the place of the first byte with which no TEXT goes on");
        text("w+)h", -12);
        text("w+h)", -13);
        text("(w+h))", -15);
        text("(w))+(", -13);
        text("ww", -11);
        text("w1", -11);
        text("w(1)", -11);
        text("w!1", -11);
        text("(1)(2)", -13);
        text("(1)2", -13);
        text("!1!2", -12);
        text("1++2", -12);
        text("1--2", -12);
        text("1**2", -12);
        text("1||2", -12);
        text("1&&2", -12);
        text("1==2", -12);
        text("1<=2", -12);
        text("1!=2", -11);
        text("()", -11);
        text("(1+)", -13);
        text("1,2", -11);
        text("w+h+#+l", -14);
        text("w+h+#+#", -14);
    }

    private static void faultAtTheEnd() {
        Due.says("T2", "FAULT: .. how many there are, if it ends too early.");
        String[] early = {"(", "!", "((", "!(", "w+", "w-", "w*", "w/", "w%", "w<", "w=", "w>", "w&", "w|", "(w", "(w+",
            "!(w", "(((((1))))", "w+!", "1+2*(3"};
        for (String signs : early) {
            text(signs, -10 - signs.length());
        }
        Calls c = new Calls();
        Due.due("49 bytes", c.read(0, times(24, "1+") + "("), -59);
        Due.due("50 bytes", c.read(0, times(25, "1+")), -60);
        Due.due("50 bytes, one open", c.read(0, "(" + times(24, "1+") + "1"), -60);
        Due.due("50 bytes, five open", c.read(0, "(((((" + times(22, "1+") + "1"), -60);
        Due.due("the last of 50", c.read(0, times(24, "1+") + "1)"), -59);
    }

    /** A text of all signs, with another byte at each place: as the Model finds it, which tries how it might end. */
    private static void eachByteAtEachPlace() {
        Due.says("T2", "FAULT: the place of the first byte with which no TEXT goes on");
        String[] texts = {"w<3&!(h+1)|l", "((((!0+1)*2)/3)%4)", "!(!!h=1)>0-12", "1234+(5|6&7)"};
        Calls c = new Calls();
        for (String text : texts) {
            for (int at = 0; at < text.length(); at++) {
                for (int i = 0; i < BYTES.length(); i++) {
                    String signs = text.substring(0, at) + BYTES.charAt(i) + text.substring(at + 1);
                    int fault = Model.Words.fault(signs, "whl");
                    c = c.many() + 8 > Calls.MOST ? new Calls() : c;
                    Due.due("of " + signs, c.read(0, signs), fault < 0 ? 1 : -10 - fault);
                }
            }
        }
    }

    private static void refusedTextChangesNothing() {
        Due.says("P15", "-10 less the FAULT (no ERROR; the one ahead stays; THE TAPE is empty, too).");
        for (String signs : new String[] {")", "w+1)", "w+1+"}) {
            for (int use = 0; use < 2; use++) {
                Calls c = States.of(States.LAST);
                c.write(signs);
                Due.dueSo("a fault of " + signs, c.ask("text", use) <= -10);
                Due.due("empty", c.ask("count", 7), 0);
                for (int k = 1; k <= 5; k++) {
                    Due.due("no ERROR", c.ask("told", k), 0);
                }
                Due.dueSo("nothing else changes", Seen.of(c).equals(Seen.of(States.of(States.LAST))));
            }
        }
        Due.says("P15", "BEYOND (THE TAPE stays).");
        for (int use : new int[] {-1, 2, LEAST, MOST}) {
            Calls c = new Calls();
            c.write("w+4");
            Due.due("another use", c.ask("text", use), Due.BEYOND);
            Due.due("the tape stays", c.ask("count", 7), 3);
            Due.due("the tape stays", c.ask("text", 0), 1);
            Due.due("the tape stays", c.ask("law", 0, 2, 0, 0), 6);
        }
    }

    private static void intsThatWrap() {
        Due.says("T2", "Ints that wrap");
        gives("w+1=h", MOST, LEAST, 0, 1);
        gives("w-1=h", LEAST, MOST, 0, 1);
        gives("w*2", MOST, 0, 0, 0);
        gives("w*2+9", MOST, 0, 0, 7);
        gives("w*h=w", LEAST, -1, 0, 1);
        gives("0-w=w", LEAST, 0, 0, 1);
        gives("w*w", 65536, 0, 0, 0);
        gives("w*w=1", 65537, 0, 0, 0);
        gives("w*w=h", 65537, 131073, 0, 1);
        gives("w+h+l", MOST, MOST, 12, 10);
        gives("9999*9999*30<0", 0, 0, 0, 1);
        Due.says("T2", "/ cut, % the rest that it leaves");
        // The least int by -1 goes round, too.
        gives("w/h=w", LEAST, -1, 0, 1);
        gives("w%h=0", LEAST, -1, 0, 1);
        gives("w/h<0", LEAST, -1, 0, 1);
    }

    private static void cut() {
        Due.says("T", "Quotients are cut (toward 0).");
        Due.says("T2", "/ cut, % the rest that it leaves");
        gives("w/h+9", 7, 2, 0, 12);
        gives("w/h+9", -7, 2, 0, 6);
        gives("w/h+9", 7, -2, 0, 6);
        gives("w/h+9", -7, -2, 0, 12);
        gives("w/h+9", -1, 2, 0, 9);
        gives("w/h+9", 1, -2, 0, 9);
        gives("w%h+9", 7, 4, 0, 12);
        gives("w%h+9", -7, 4, 0, 6);
        gives("w%h+9", 7, -4, 0, 12);
        gives("w%h+9", -7, -4, 0, 6);
        gives("w%h+9", 8, 4, 0, 9);
        gives("w/1=w", LEAST, 0, 0, 1);
        gives("w%h=w", LEAST, MOST, 0, 0);
        gives("w%h+9", LEAST, MOST, 0, 8);
    }

    private static void byZero() {
        Due.says("T2", "both by 0 are 0");
        for (int w : new int[] {LEAST, -1, 0, 1, MOST}) {
            gives("w/h+5", w, 0, 0, 5);
            gives("w%h+5", w, 0, 0, 5);
            gives("w/(h-h)+5", w, 9, 0, 5);
            gives("w%0+5", w, 9, 0, 5);
        }
        gives("1/0/0%0", 0, 0, 0, 0);
    }

    /** 5 more, so that a number below 0 isn't held at 0. */
    private static void isSo(String signs, int a, int b, boolean so) {
        gives("5+(" + signs + ")", a, b, 0, so ? 6 : 5);
    }

    private static void truth() {
        Due.says("T2", "| & < = > ! are 1 or 0, what is not 0 being true");
        for (int w : new int[] {LEAST, -2, -1, 0, 1, 2, 256, 65536, MOST}) {
            boolean so = w != 0;
            isSo("!w", w, 0, !so);
            isSo("!!w", w, 0, so);
            isSo("w|0", w, 0, so);
            isSo("0|w", w, 0, so);
            isSo("w|w", w, 0, so);
            isSo("w|7", w, 0, true);
            isSo("w&7", w, 0, so);
            isSo("7&w", w, 0, so);
            isSo("w&0", w, 0, false);
            isSo("w<0", w, 0, w < 0);
            isSo("w>0", w, 0, w > 0);
            isSo("w=0", w, 0, !so);
        }
        for (int w : new int[] {LEAST, -1, 0, 1, MOST}) {
            for (int h : new int[] {LEAST, -1, 0, 1, MOST}) {
                isSo("w<h", w, h, w < h);
                isSo("w=h", w, h, w == h);
                isSo("w>h", w, h, w > h);
            }
        }
    }

    private static void allIsWorkedOut() {
        Due.says("T2", "all is worked out");
        gives("1|1/0", 0, 0, 0, 1);
        gives("0&1/0", 0, 0, 0, 0);
        gives("0|1|0&1", 0, 0, 0, 1);
        gives("1|0&0", 0, 0, 0, 1);
        gives("1|0&1/0", 0, 0, 0, 1);
        gives("(1|1)+(0&0)+(1&1)", 0, 0, 0, 2);
    }

    private static void held() {
        Due.says("T2", "held within 0 to 20");
        Calls c = new Calls();
        c.read(0, "w");
        int[] of = {LEAST, -21, -1, 0, 1, 19, 20, 21, 255, 256, MOST};
        int[] is = {0, 0, 0, 0, 1, 19, 20, 20, 20, 20, 20};
        for (int i = 0; i < of.length; i++) {
            Due.due("of " + of[i], c.ask("law", 0, of[i], 0, 0), is[i]);
        }
        Due.says("T2", "held within 0 to 9");
        c.read(1, "f");
        int[] other = {LEAST, -10, -1, 0, 1, 8, 9, 10, 20, 256, MOST};
        int[] otherIs = {0, 0, 0, 0, 1, 8, 9, 9, 9, 9, 9};
        for (int i = 0; i < other.length; i++) {
            Due.due("of " + other[i], c.ask("law", 1, 0, 0, other[i]), otherIs[i]);
        }
    }

    private static void heldInAYear() {
        int[] want = {0, 0, 5, 20, 20};
        String[] yearns = {"0-1", "0", "5", "20", "21"};
        for (int i = 0; i < want.length; i++) {
            Due.says("T2", "held within 0 to 20");
            Calls c = new Calls();
            c.ask("figure", 0, 0);
            c.read(0, yearns[i]);
            Due.due("of " + yearns[i], c.ask("ofFigure", 6), want[i]);
            Due.due("in thought, of " + yearns[i], c.ask("then", 1, 0), want[i]);
            c.ask("years", 1);
            Due.due("in a year, of " + yearns[i], c.ask("count", 2), want[i]);
        }
        int[] lean = {0, 0, 5, 9, 9};
        String[] shifts = {"0-1", "0", "5", "9", "10"};
        for (int i = 0; i < lean.length; i++) {
            Due.says("T2", "held within 0 to 9");
            Calls c = new Calls();
            c.read(1, shifts[i]);
            Due.due("of " + shifts[i], c.ask("ofFigure", 7), lean[i]);
            Due.due("in a year, of " + shifts[i], c.ask("years", 1), lean[i]);
        }
    }

    private static void withoutAText() {
        Due.says("T2", "without a TEXT h");
        Calls c = new Calls();
        for (int h = 0; h <= 20; h++) {
            Due.due("of " + h, c.ask("law", 0, 77, h, 88), h);
        }
        Due.says("T2", "without a TEXT a tenth (cut) of w");
        for (int w = 0; w <= 99; w++) {
            Due.due("of " + w, c.ask("law", 1, w, 7, 88), w / 10);
        }
        for (int w = -9; w < 0; w++) {
            Due.due("of " + w, c.ask("law", 1, w, 7, 88), 0);
        }
        Due.says("T2", "held within 0 to 20; without a TEXT h");
        Due.due("of 21", c.ask("law", 0, 0, 21, 0), 20);
        Due.due("of -1", c.ask("law", 0, 0, -1, 0), 0);
        Due.due("of the greatest", c.ask("law", 0, 0, MOST, 0), 20);
        Due.due("of the least", c.ask("law", 0, 0, LEAST, 0), 0);
        Due.says("T2", "held within 0 to 9; without a TEXT a tenth (cut) of w");
        Due.due("of 100", c.ask("law", 1, 100, 0, 0), 9);
        Due.due("of -10", c.ask("law", 1, -10, 0, 0), 0);
        Due.due("of the greatest", c.ask("law", 1, MOST, 0, 0), 9);
        Due.due("of the least", c.ask("law", 1, LEAST, 0, 0), 0);
        Due.due("a fault doesn't make one", c.read(0, "1+"), -12);
        Due.due("a fault doesn't make one", c.ask("law", 0, 4, 7, 9), 7);
    }
}
