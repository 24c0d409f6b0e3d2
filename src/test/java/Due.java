/** Counts and prints the answers that are not the ones due. */
final class Due {
    static final int LOW = -1000000000;
    static final int BEYOND = LOW - 1;
    static final int NONE = LOW - 2;
    static final int STATE = LOW - 3;
    static final int FULL = LOW - 4;
    static final int KIND = LOW - 5;

    private static int wrong = 0;
    private static int asked = 0;
    private static String sentence = "";

    private Due() {
    }

    /** What follows tests this sentence of the document (of a promise P, or of a part T of its Terms). */
    static void says(String place, String words) {
        sentence = place + " \"" + words + "\": ";
    }

    static void due(String what, long got, long want) {
        asked++;
        if (got != want) {
            wrong++;
            System.out.println(sentence + what + " answered " + got + ", due is " + want);
        }
    }

    static void dueSo(String what, boolean so) {
        due(what, so ? 1 : 0, 1);
    }

    static void end(String name) {
        System.out.println(name + ": " + asked + " answers, " + wrong + " not as due");
        if (wrong != 0) {
            System.exit(1);
        }
    }

    /** Brings the signs to THE TAPE, at most 8 a call. */
    static void write(BronzeDown x, String signs) {
        for (int from = 0; from < signs.length(); from += 8) {
            int n = Math.min(8, signs.length() - from);
            long word = 0;
            for (int i = n - 1; i >= 0; i--) {
                word = word << 8 | signs.charAt(from + i) & 255;
            }
            x.feed(word, n);
        }
    }

    static int read(BronzeDown x, int use, String signs) {
        write(x, signs);
        return x.text(use);
    }

    static void fill(BronzeDown x, int sheet, int bits, int... numbers) {
        x.sheet(sheet, bits, numbers.length);
        for (int i = 0; i < numbers.length; i++) {
            x.put(sheet, i, numbers[i]);
        }
    }
}
