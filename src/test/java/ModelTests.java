import java.util.Random;

/** Long runs of calls on the class and on the Model: the answers are the same. Always the same runs. */
public final class ModelTests {
    private static final String[] CALLS = {"season", "ofSeason", "figure", "ofFigure", "step", "ofStep", "trees",
        "visitor", "ofVisitor", "change", "become", "as", "feed", "text", "law", "years", "loose", "then", "falls",
        "wet", "loudFor", "everyFor", "needless", "wanted", "which", "stair", "exact", "house", "power", "gait", "odds",
        "seed", "voice", "trace", "sheet", "put", "move", "talls", "judge", "image", "restore", "tell", "check",
        "count", "told"};
    private static final int RUNS = 300;
    private static final int CALLS_OF_A_RUN = Calls.MOST;

    private final Random random;
    private final Calls x = new Calls();
    private final Model model = new Model();
    private final int run;
    private final boolean wild;
    private int calls = 0;

    private ModelTests(int run) {
        this.run = run;
        this.random = new Random(run);
        this.wild = run % 10 == 0;
    }

    public static void main(String[] args) {
        int runs = args.length > 0 ? Integer.parseInt(args[0]) : RUNS;
        for (int run = 0; run < runs; run++) {
            new ModelTests(run).go();
        }
        Due.end("ModelTests");
    }

    private void go() {
        while (calls < CALLS_OF_A_RUN) {
            switch (random.nextInt(14)) {
                case 0:
                    readText();
                    break;
                case 1:
                    tellWhatWouldBe();
                    break;
                case 2:
                    tellOfACell();
                    break;
                case 3:
                    tellLouds();
                    break;
                case 4:
                    hearVoices();
                    break;
                default:
                    call(CALLS[random.nextInt(CALLS.length)]);
                    break;
            }
        }
    }

    private void readText() {
        StringBuilder signs = new StringBuilder();
        grow(signs, 6, 0);
        if (signs.length() > 50) {
            signs.setLength(50);
        }
        if (random.nextInt(4) == 0 && signs.length() > 0) {
            signs.setCharAt(random.nextInt(signs.length()), anySign());
        }
        if (random.nextInt(6) == 0) {
            signs.setLength(random.nextInt(signs.length() + 1));
        }
        if (model.count(7) > 0) {
            ask("text", 0, random.nextInt(2));
        }
        for (int from = 0; from < signs.length(); from += 8) {
            int n = Math.min(8, signs.length() - from);
            long word = random.nextLong();
            for (int i = 0; i < n; i++) {
                word = word & ~(255L << 8 * i) | (long) signs.charAt(from + i) << 8 * i;
            }
            ask("feed", word, n);
        }
        int use = random.nextInt(2);
        ask("text", 0, use);
        ask("law", 0, use, number(), number(), number());
        ask("law", 0, use, random.nextInt(100), random.nextInt(10), random.nextInt(100));
    }

    private char anySign() {
        String signs = "|&<=>+-*/%!()whlf0123456789 ";
        return signs.charAt(random.nextInt(signs.length()));
    }

    private void grow(StringBuilder signs, int level, int depth) {
        if (level > 1) {
            String joins = "*/%+-<=>&|";
            int many = random.nextInt(5) == 0 ? 1 : 0;
            for (int i = 0; i <= many; i++) {
                if (i > 0) {
                    signs.append(joins.charAt(random.nextInt(joins.length())));
                }
                grow(signs, level - 1, depth);
            }
            return;
        }
        int what = random.nextInt(8);
        if (what == 0 && depth < 6) {
            signs.append('!');
            grow(signs, 1, depth + 1);
        } else if (what <= 2 && depth < 6) {
            signs.append('(');
            grow(signs, 5, depth + 1);
            signs.append(')');
        } else if (what <= 4) {
            signs.append(random.nextInt(random.nextInt(8) == 0 ? 20000 : 30));
        } else {
            signs.append("whlfw".charAt(random.nextInt(5)));
        }
    }

    /** Sheets and numbers that wait tell what is so, mostly. */
    private void tellWhatWouldBe() {
        int n = random.nextInt(12);
        int sheet = random.nextInt(4);
        ask("sheet", 0, sheet, 8 << random.nextInt(3), n);
        for (int i = 0; i < n; i++) {
            int v = model.then(i + 1, 1) + (random.nextInt(25) == 0 ? 1 : 0);
            ask("put", 0, sheet, i, v);
            if (model.count(8) < 20) {
                ask("tell", 0, v);
            }
        }
        ask("wanted", 0, sheet, random.nextInt(2));
        if (model.count(0) > 0) {
            ask("which", 0, sheet, random.nextInt(model.count(0)));
        }
        ask("check", 0);
    }

    private void tellOfACell() {
        for (int row = 0; row < 8; row++) {
            ask("trees", 0, row, random.nextInt(256) & random.nextInt(256));
        }
        int sheet = random.nextInt(4);
        int n = random.nextInt(5);
        ask("sheet", 0, sheet, 8 << random.nextInt(3), n);
        for (int i = 0; i < n; i++) {
            ask("put", 0, sheet, i, random.nextInt(5));
        }
        ask("house", 0, sheet, 0);
        ask("house", 0, sheet, 1);
    }

    private void tellLouds() {
        int many = model.count(0);
        int sheet = random.nextInt(4);
        ask("sheet", 0, sheet, 8 << random.nextInt(3), Math.max(0, many + random.nextInt(7) / 3 - 1));
        for (int i = 0; i < many; i++) {
            ask("put", 0, sheet, i, model.ofVisitor(i, 2) + (random.nextInt(15) == 0 ? 1 : 0));
        }
        ask("judge", 0, sheet);
        ask("talls", 0, sheet);
    }

    private void hearVoices() {
        if (model.count(0) < 8) {
            call("visitor");
        }
        for (int i = 0; i < 3 && model.count(0) > 0; i++) {
            int who = random.nextInt(model.count(0));
            ask("become", 0, who, random.nextInt(70));
            ask("voice", 0, who, random.nextInt(4), number());
            ask("count", 0, 9);
            ask("trace", 0, random.nextInt(9));
        }
    }

    private int number() {
        return random.nextInt(3) == 0 ? random.nextInt() : random.nextInt(400) - 200;
    }

    /** One of 0 .. most; at times a little or far beyond. */
    private int upTo(int most) {
        int luck = random.nextInt(wild ? 8 : 60);
        if (luck == 0) {
            return random.nextBoolean() ? -1 : most + 1;
        }
        if (luck == 1) {
            int[] far = {Integer.MIN_VALUE, Integer.MAX_VALUE, most + 2, -2, random.nextInt()};
            return far[random.nextInt(far.length)];
        }
        return random.nextInt(most + 1);
    }

    private int one(int... of) {
        return of[random.nextInt(of.length)];
    }

    private void call(String name) {
        int who = Math.max(0, model.count(0) - 1);
        switch (name) {
            case "season": ask(name, 0, upTo(5), upTo(1), upTo(9)); break;
            case "ofSeason": ask(name, 0, upTo(5), upTo(1)); break;
            case "figure": changeFigure(); break;
            case "ofFigure": ask(name, 0, upTo(7)); break;
            case "step": ask(name, 0, upTo(9), 0, upTo(9)); ask(name, 0, upTo(9), upTo(1), upTo(99)); break;
            case "ofStep": ask(name, 0, upTo(9), upTo(2)); break;
            case "trees": ask(name, 0, upTo(7), upTo(255)); break;
            case "visitor": ask(name, 0, upTo(69), upTo(9), upTo(12)); break;
            case "ofVisitor": ask(name, 0, upTo(who), upTo(5)); break;
            case "change": ask(name, 0, upTo(who), upTo(1), upTo(12)); break;
            case "become": ask(name, 0, upTo(who), upTo(69)); break;
            case "as": ask(name, 0, upTo(who), upTo(6)); break;
            case "feed": ask(name, random.nextLong(), upTo(8)); break;
            case "text": ask(name, 0, upTo(1)); break;
            case "law": ask(name, 0, upTo(1), number(), number(), number()); break;
            case "years": ask(name, 0, upTo(wild ? 60 : 5)); break;
            case "loose": ask(name, 0, upTo(wild ? 40 : 4)); break;
            case "then": ask(name, 0, upTo(60), upTo(2)); break;
            case "wet": ask(name, 0, upTo(60), upTo(random.nextBoolean() ? 99 : 15)); break;
            case "loudFor": ask(name, 0, upTo(who), upTo(random.nextBoolean() ? 60 : 9), upTo(99)); break;
            case "everyFor": ask(name, 0, upTo(who), upTo(random.nextBoolean() ? 60 : 9)); break;
            case "needless": ask(name, 0, upTo(random.nextBoolean() ? 60 : 9)); break;
            case "wanted": ask(name, 0, upTo(3), upTo(1)); break;
            case "which": ask(name, 0, upTo(3), upTo(who)); break;
            case "stair": ask(name, 0, upTo(1)); break;
            case "house": ask(name, 0, upTo(3), upTo(1)); break;
            case "power": ask(name, 0, upTo(who)); break;
            case "gait": ask(name, 0, upTo(12)); break;
            case "odds": ask(name, 0, upTo(random.nextBoolean() ? 30 : 9), upTo(99), upTo(1)); break;
            case "seed": ask(name, 0, random.nextInt()); break;
            case "voice": ask(name, 0, upTo(who), upTo(3), number()); break;
            case "trace": ask(name, 0, upTo(9)); break;
            case "sheet": ask(name, 0, upTo(3), one(0, 8, 16, 32, 8, 16, 32, 64, 1), upTo(40)); break;
            case "put": ask(name, 0, upTo(3), upTo(12), one(random.nextInt(10), number())); break;
            case "move": ask(name, 0, upTo(3), upTo(9), upTo(3), upTo(9), upTo(9)); break;
            case "talls": case "judge": ask(name, 0, upTo(3)); break;
            case "tell": ask(name, 0, number()); break;
            case "count": ask(name, 0, upTo(10)); break;
            case "told": ask(name, 0, upTo(6)); break;
            case "restore": case "image": case "falls": case "exact": case "check": ask(name, 0); break;
            default: throw new IllegalStateException(name);
        }
    }

    private void changeFigure() {
        int what = upTo(4);
        int[] most = {99, 99, 99, 60, 15};
        ask("figure", 0, what, upTo(what >= 0 && what < 5 ? most[what] : 9));
        if (random.nextInt(3) == 0) {
            ask("figure", 0, 1, random.nextInt(9));
        }
    }

    private void ask(String name, long word, int... v) {
        if (calls >= CALLS_OF_A_RUN) {
            return;
        }
        calls++;
        StringBuilder what = new StringBuilder("run ").append(run).append(", call ").append(calls).append(": ");
        what.append(name).append(java.util.Arrays.toString(v));
        int want;
        try {
            want = ofModel(name, word, v);
        } catch (Model.Refused refused) {
            want = model.refused(refused.k);
        }
        Due.due(what.toString(), x.askWith(word, name, v), want);
    }

    private int ofModel(String name, long word, int[] v) {
        switch (name) {
            case "season": return model.season(v[0], v[1], v[2]);
            case "ofSeason": return model.ofSeason(v[0], v[1]);
            case "figure": return model.figure(v[0], v[1]);
            case "ofFigure": return model.ofFigure(v[0]);
            case "step": return model.step(v[0], v[1], v[2]);
            case "ofStep": return model.ofStep(v[0], v[1]);
            case "trees": return model.trees(v[0], v[1]);
            case "visitor": return model.visitor(v[0], v[1], v[2]);
            case "ofVisitor": return model.ofVisitor(v[0], v[1]);
            case "change": return model.change(v[0], v[1], v[2]);
            case "become": return model.become(v[0], v[1]);
            case "as": return model.as(v[0], v[1]);
            case "feed": return model.feed(word, v[0]);
            case "text": return model.text(v[0]);
            case "law": return model.law(v[0], v[1], v[2], v[3]);
            case "years": return model.years(v[0]);
            case "loose": return model.loose(v[0]);
            case "then": return model.then(v[0], v[1]);
            case "falls": return model.falls();
            case "wet": return model.wet(v[0], v[1]);
            case "loudFor": return model.loudFor(v[0], v[1], v[2]);
            case "everyFor": return model.everyFor(v[0], v[1]);
            case "needless": return model.needless(v[0]);
            case "wanted": return model.wanted(v[0], v[1]);
            case "which": return model.which(v[0], v[1]);
            case "stair": return model.stair(v[0]);
            case "exact": return model.exact();
            case "house": return model.house(v[0], v[1]);
            case "power": return model.power(v[0]);
            case "gait": return model.gait(v[0]);
            case "odds": return model.odds(v[0], v[1], v[2]);
            case "seed": return model.seed(v[0]);
            case "voice": return model.voice(v[0], v[1], v[2]);
            case "trace": return model.trace(v[0]);
            case "sheet": return model.sheet(v[0], v[1], v[2]);
            case "put": return model.put(v[0], v[1], v[2]);
            case "move": return model.move(v[0], v[1], v[2], v[3], v[4]);
            case "talls": return model.talls(v[0]);
            case "judge": return model.judge(v[0]);
            case "image": return model.image();
            case "restore": return model.restore();
            case "tell": return model.tell(v[0]);
            case "check": return model.check();
            case "count": return model.count(v[0]);
            case "told": return model.told(v[0]);
            default: throw new IllegalStateException(name);
        }
    }
}
