/** Compares answers with those that are due, for the tests of the project. */
final class Due {
    private int asked = 0;
    private int wrong = 0;

    /** One answer. */
    void is(String call, int got, int want) {
        asked++;
        if (got != want) {
            wrong++;
            System.out.println(call + " answered " + got + ", due is " + want);
        }
    }

    /** Something that must hold. */
    void holds(String what, boolean that) {
        asked++;
        if (!that) {
            wrong++;
            System.out.println("not so: " + what);
        }
    }

    /** Two texts that must be alike. */
    void same(String what, String got, String want) {
        asked++;
        if (!got.equals(want)) {
            wrong++;
            System.out.println("not so: " + what + "; seen was\n" + got + "due is\n" + want);
        }
    }

    /** Ends the test: with exit code 1, if an answer was not the one that is due. */
    void end() {
        System.out.println(asked + " answers, " + wrong + " not as due");
        if (wrong != 0) {
            System.exit(1);
        }
    }

    /** An object with so many sites. */
    static LastMap withSites(int n) {
        LastMap x = new LastMap();
        x.sites(n);
        return x;
    }

    /** Puts a text on the pad instead of what was there. */
    static void write(LastMap x, String text) {
        x.wipe();
        for (int i = 0; i < text.length(); i++) {
            x.say(text.charAt(i));
        }
    }

    /** Tells a map; what map(..) answered. */
    static int tell(LastMap x, int map, String text) {
        write(x, text);
        return x.map(map);
    }

    /** A map as a text; its answers as a sign each, if it is not told. */
    static String read(LastMap x, int map) {
        StringBuilder text = new StringBuilder();
        for (int site = 0; site < x.told(1); site++) {
            text.append((char) x.at(map, site));
        }
        return text.toString();
    }

    /** The land as a text. */
    static String readLand(LastMap x) {
        StringBuilder text = new StringBuilder();
        for (int site = 0; site < x.told(1); site++) {
            text.append((char) x.land(site));
        }
        return text.toString();
    }
}
