/** One object of the class, asked by the names of its calls; no more than MOST, for what later ones answer is free. */
final class Calls {
    static final int MOST = 512;

    private final BronzeDown x = new BronzeDown();
    private int many = 0;

    int many() {
        return many;
    }

    int ask(String name, int... v) {
        return askWith(0, name, v);
    }

    /** The word is for feed alone. */
    int askWith(long word, String name, int... v) {
        many++;
        if (many > MOST) {
            throw new IllegalStateException("more than " + MOST + " calls");
        }
        switch (name) {
            case "season": return x.season(v[0], v[1], v[2]);
            case "ofSeason": return x.ofSeason(v[0], v[1]);
            case "figure": return x.figure(v[0], v[1]);
            case "ofFigure": return x.ofFigure(v[0]);
            case "step": return x.step(v[0], v[1], v[2]);
            case "ofStep": return x.ofStep(v[0], v[1]);
            case "trees": return x.trees(v[0], v[1]);
            case "visitor": return x.visitor(v[0], v[1], v[2]);
            case "ofVisitor": return x.ofVisitor(v[0], v[1]);
            case "change": return x.change(v[0], v[1], v[2]);
            case "become": return x.become(v[0], v[1]);
            case "as": return x.as(v[0], v[1]);
            case "feed": return x.feed(word, v[0]);
            case "text": return x.text(v[0]);
            case "law": return x.law(v[0], v[1], v[2], v[3]);
            case "years": return x.years(v[0]);
            case "loose": return x.loose(v[0]);
            default: return askWhatWouldBe(name, v);
        }
    }

    private int askWhatWouldBe(String name, int[] v) {
        switch (name) {
            case "then": return x.then(v[0], v[1]);
            case "falls": return x.falls();
            case "wet": return x.wet(v[0], v[1]);
            case "loudFor": return x.loudFor(v[0], v[1], v[2]);
            case "everyFor": return x.everyFor(v[0], v[1]);
            case "needless": return x.needless(v[0]);
            case "wanted": return x.wanted(v[0], v[1]);
            case "which": return x.which(v[0], v[1]);
            case "stair": return x.stair(v[0]);
            case "exact": return x.exact();
            case "house": return x.house(v[0], v[1]);
            case "power": return x.power(v[0]);
            case "gait": return x.gait(v[0]);
            case "odds": return x.odds(v[0], v[1], v[2]);
            default: return askTheRest(name, v);
        }
    }

    private int askTheRest(String name, int[] v) {
        switch (name) {
            case "seed": return x.seed(v[0]);
            case "voice": return x.voice(v[0], v[1], v[2]);
            case "trace": return x.trace(v[0]);
            case "sheet": return x.sheet(v[0], v[1], v[2]);
            case "put": return x.put(v[0], v[1], v[2]);
            case "move": return x.move(v[0], v[1], v[2], v[3], v[4]);
            case "talls": return x.talls(v[0]);
            case "judge": return x.judge(v[0]);
            case "image": return x.image();
            case "restore": return x.restore();
            case "tell": return x.tell(v[0]);
            case "check": return x.check();
            case "count": return x.count(v[0]);
            case "told": return x.told(v[0]);
            default: throw new IllegalStateException(name);
        }
    }

    /** Brings the signs to THE TAPE, at most 8 a call; answers as the last call. */
    int write(String signs) {
        int answer = 0;
        for (int from = 0; from < signs.length(); from += 8) {
            int n = Math.min(8, signs.length() - from);
            answer = askWith(word(signs, from, n), "feed", n);
        }
        return answer;
    }

    private static long word(String signs, int from, int n) {
        long word = 0;
        for (int i = n - 1; i >= 0; i--) {
            word = word << 8 | signs.charAt(from + i) & 255;
        }
        return word;
    }

    int read(int use, String signs) {
        write(signs);
        return ask("text", use);
    }

    void fill(int sheet, int bits, int... numbers) {
        ask("sheet", sheet, bits, numbers.length);
        for (int i = 0; i < numbers.length; i++) {
            ask("put", sheet, i, numbers[i]);
        }
    }
}
