/** Objects in states from which a test goes on. The same name always gives the same state. */
final class States {
    /** A new object. */
    static final String BARE = "bare";
    /** 8 VISITORS, THE TAPE and what waits full; SHEETS of 40, 0, and 4 numbers, and one that is missing; an IMAGE. */
    static final String FULL = "full";
    /** YEAR 9999; 3 VISITORS. */
    static final String LAST = "last";

    /** A TEXT of 50 bytes, in which each byte counts. */
    static final String FIFTY = "w-1+l*2-h/3+(4<w)-5*!6+7%8-(9|0)*1+11-w/(3+h)+4-19";

    private States() {
    }

    static Calls of(String name) {
        switch (name) {
            case BARE: return new Calls();
            case FULL: return full();
            case LAST: return last();
            default: throw new IllegalStateException(name);
        }
    }

    private static Calls full() {
        Calls c = new Calls();
        for (int s = 0; s < 6; s++) {
            c.ask("season", s, 0, (3 * s + 1) % 10);
            c.ask("season", s, 1, 7 * s % 10);
        }
        for (int s = 0; s < 10; s++) {
            c.ask("step", s, 0, (7 * s + 2) % 10);
            c.ask("step", s, 1, 44 + s);
        }
        for (int i = 0; i < 8; i++) {
            c.ask("trees", i, 17 * i + 3);
            c.ask("visitor", 10 * (i % 7) + (i + 2) % 10, (5 * i + 1) % 10, i % 4 + 1);
        }
        c.ask("figure", 0, 33);
        c.ask("figure", 3, 31);
        c.ask("figure", 4, 2);
        c.read(0, "h+l/9+4");
        c.read(1, "w/20+f%3");
        c.write("w+1");
        c.ask("tell", 42);
        c.ask("image");
        c.ask("check");
        c.ask("text", 1);
        c.read(1, "w/20+f%3");
        c.ask("years", 7);
        changeWhatTheImageHas(c);
        sheetsOfFull(c);
        c.ask("voice", 6, 3, 5);
        for (int i = 1; i <= 20; i++) {
            c.ask("tell", c.ask("then", i, 1));
        }
        return c;
    }

    private static void changeWhatTheImageHas(Calls c) {
        c.ask("season", 1, 0, 8);
        c.ask("season", 1, 1, 4);
        c.ask("figure", 2, 27);
        c.ask("figure", 3, 24);
        c.ask("figure", 4, 4);
        c.ask("step", 3, 0, 1);
        c.ask("step", 3, 1, 99);
        c.ask("trees", 2, 200);
        c.ask("change", 1, 0, 3);
        c.ask("change", 1, 1, 9);
        c.ask("become", 7, 48);
        c.ask("seed", -77);
        c.write(FIFTY);
    }

    private static void sheetsOfFull(Calls c) {
        c.ask("sheet", 0, 8, 40);
        for (int i = 0; i < 40; i += 3) {
            c.ask("put", 0, i, (7 * i + 1) % 10);
        }
        c.ask("put", 0, 39, 9);
        c.ask("sheet", 1, 16, 0);
        c.fill(2, 32, 1, 2, 3, 4);
    }

    private static Calls last() {
        Calls c = new Calls();
        c.read(1, "w>40");
        c.ask("visitor", 16, 3, 5);
        c.ask("visitor", 69, 4, 3);
        c.ask("visitor", 53, 5, 2);
        pass(c, 9999);
        c.ask("figure", 1, 5);
        c.ask("figure", 0, 50);
        return c;
    }

    private static void pass(Calls c, int years) {
        for (int left = years; left > 0; left -= 60) {
            c.ask("years", Math.min(60, left));
        }
    }

    /** A new object of which only YEAR is another, and what so many YEARS do; LEAN is 99 soon. */
    static Calls ofYear(int year) {
        Calls c = new Calls();
        pass(c, year);
        return c;
    }

    /** The same, with TEXTS; without rain, LEAN being 0. */
    static Calls ofYear(int year, String yearns, String shifts) {
        Calls c = ofYear(year);
        for (int s = 0; s < 6; s++) {
            c.ask("season", s, 0, 0);
            c.ask("season", s, 1, 0);
        }
        c.read(0, yearns);
        c.read(1, shifts);
        c.ask("figure", 1, 0);
        c.ask("figure", 2, 0);
        return c;
    }
}
