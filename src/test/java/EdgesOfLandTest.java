/** The sentences of part 4 and of promises 18 to 25 that name an edge, one function for each, both sides of it. */
public final class EdgesOfLandTest {
    private static final Due DUE = new Due();

    public static void main(String[] args) {
        spadesEdges();
        landEdges();
        yearsBySpades();
        yearsOfFewSites();
        followNoYears();
        followNineYears();
        followSkips();
        followTwo();
        followNeverMore();
        drawnNoTimes();
        drawnSeeds();
        drawnLeftOver();
        drawnTimes();
        drawnNoSlips();
        drawnByThen();
        drawnAlone();
        imageOfNothing();
        imageWithoutPad();
        imageOverImage();
        imagesApart();
        restoreTwice();
        restoreOfOtherSites();
        restoreAsItWas();
        toldEdges();
        DUE.end();
    }

    private static LastMap with(String... maps) {
        LastMap x = Due.withSites(maps[0].length());
        for (int map = 0; map < maps.length; map++) {
            Due.tell(x, map, maps[map]);
        }
        return x;
    }

    // ---- promises 18 and 19

    /* "SPADES (1 to 6; 1 at first)"; "which it was". */
    private static void spadesEdges() {
        LastMap x = Due.withSites(2);
        int before = 1;
        for (int v = -2; v <= 9; v++) {
            boolean stands = v >= 1 && v <= 6;
            DUE.is("18: spades(" + v + ")", x.spades(v), stands ? before : LastMap.OUTSIDE);
            before = stands ? v : before;
            DUE.is("18: told(3)", x.told(3), before);
        }
        DUE.is("18: spades(6), the same", x.spades(6), 6);
    }

    /* "The sign of THE LAND at a SITE. UNKNOWN." */
    private static void landEdges() {
        for (int n = 2; n <= 6; n++) {
            LastMap x = with("-bcdad".substring(0, n));
            DUE.same("19: THE LAND at first", Due.readLand(x), "a".repeat(n));
            x.follow(0, 9);
            DUE.same("19: THE LAND then", Due.readLand(x), "-bcdad".substring(0, n));
            DUE.is("19: land(-1)", x.land(-1), LastMap.UNKNOWN);
            DUE.is("19: land(n)", x.land(n), LastMap.UNKNOWN);
        }
    }

    // ---- promise 20

    /* "YEARS till it is so": 0 if it is; every number of SITES that are other, with every number of SPADES. */
    private static void yearsBySpades() {
        int[][] want = {
            {0, 0, 0, 0, 0, 0}, {1, 1, 1, 1, 1, 1}, {2, 1, 1, 1, 1, 1}, {3, 2, 1, 1, 1, 1},
            {4, 2, 2, 1, 1, 1}, {5, 3, 2, 2, 1, 1}, {6, 3, 2, 2, 2, 1}};
        for (int other = 0; other <= 6; other++) {
            LastMap x = with("a".repeat(6 - other) + "-".repeat(other));
            for (int v = 1; v <= 6; v++) {
                x.spades(v);
                DUE.is("20: years(0), " + other + " are other, " + v + " SPADES", x.years(0), want[other][v - 1]);
            }
            DUE.same("20: THE LAND stays", Due.readLand(x), "aaaaaa");
        }
    }

    private static void yearsOfFewSites() {
        LastMap x = with("bb", "ab", "aa");
        x.spades(6);
        DUE.is("20: years(0)", x.years(0), 1);
        DUE.is("20: years(1)", x.years(1), 1);
        DUE.is("20: years(2)", x.years(2), 0);
        x.follow(0, 1);
        DUE.is("20: years(0) behind it", x.years(0), 0);
        DUE.is("20: years(2) behind it", x.years(2), 1);
    }

    // ---- promise 21

    private static void follows(LastMap x, int map, int years, int other, String land) {
        DUE.is("21: follow(" + map + ", " + years + ")", x.follow(map, years), other);
        DUE.same("21: THE LAND behind follow(" + map + ", " + years + ")", Due.readLand(x), land);
    }

    /* "so many years (0 to 9)": in no years nothing is made. */
    private static void followNoYears() {
        LastMap x = with("bcd-bc", "aaaaaa");
        x.spades(6);
        follows(x, 0, 0, 6, "aaaaaa");
        follows(x, 1, 0, 0, "aaaaaa");
        follows(x, 0, 1, 0, "bcd-bc");
        follows(x, 1, 0, 6, "bcd-bc");
    }

    /* Nine years are more than any LAND needs; each year counts up to that. */
    private static void followNineYears() {
        String[] lands = {"aaaaaa", "baaaaa", "bcaaaa", "bcdaaa", "bcd-aa", "bcd-ba", "bcd-bc"};
        for (int years = 0; years <= 9; years++) {
            LastMap x = with("bcd-bc");
            follows(x, 0, years, Math.max(0, 6 - years), lands[Math.min(6, years)]);
        }
        LastMap x = with("bcd-bc");
        DUE.is("21: follow(0, 10)", x.follow(0, 10), LastMap.OUTSIDE);
        DUE.is("21: follow(0, -1)", x.follow(0, -1), LastMap.OUTSIDE);
        DUE.same("21: THE LAND stays", Due.readLand(x), "aaaaaa");
    }

    /* "the first SPADES SITES at which it is other": those that are alike are gone by. */
    private static void followSkips() {
        LastMap x = with("abacad", "aaaaaa");
        x.spades(2);
        follows(x, 0, 1, 1, "abacaa");
        follows(x, 0, 1, 0, "abacad");
        follows(x, 1, 1, 1, "aaaaad");
        follows(x, 1, 2, 0, "aaaaaa");
    }

    /* One MAP and then another: what was made for the first is other for the second. */
    private static void followTwo() {
        LastMap x = with("bbbb", "cccc", "bbcc");
        x.spades(3);
        follows(x, 0, 1, 1, "bbba");
        follows(x, 1, 1, 1, "ccca");
        follows(x, 2, 1, 0, "bbcc");
        follows(x, 1, 1, 0, "cccc");
    }

    /* With more SPADES than SITES that are other nothing else is made. */
    private static void followNeverMore() {
        LastMap x = with("ab", "-b");
        x.spades(6);
        follows(x, 0, 9, 0, "ab");
        follows(x, 0, 9, 0, "ab");
        follows(x, 1, 1, 0, "-b");
    }

    // ---- promise 22

    private static void drawn(LastMap x, int seed, int hand, int m, String want, int other) {
        String call = "22: drawn(" + seed + ", 0, " + hand + ", " + m + ", ";
        for (int site = 0; site < want.length(); site++) {
            DUE.is(call + site + ")", x.drawn(seed, 0, hand, m, site), want.charAt(site));
        }
        DUE.is(call + "-1)", x.drawn(seed, 0, hand, m, -1), other);
        DUE.is(call + "n)", x.drawn(seed, 0, hand, m, want.length()), LastMap.UNKNOWN);
        DUE.is(call + "-2)", x.drawn(seed, 0, hand, m, -2), LastMap.UNKNOWN);
    }

    /* "m times (0 to 60)": no times leave it as it is. */
    private static void drawnNoTimes() {
        for (int n = 2; n <= 6; n++) {
            LastMap x = with("d-cbad".substring(0, n));
            drawn(x, 0, 0, 0, "d-cbad".substring(0, n), 0);
            drawn(x, 9999, 3, 0, "d-cbad".substring(0, n), 0);
        }
    }

    /* "a seed x (0 to 9999)". Of a- these are some: c0b c0c c0d c1a c1b c1c c1d s0 t0 o0. */
    private static void drawnSeeds() {
        LastMap x = with("a-");
        // 74, number 4
        drawn(x, 0, 0, 1, "ab", 1);
        // 749999 left over by 65537 is 29092, number 2
        drawn(x, 9999, 0, 1, "d-", 1);
        // 149, number 9
        drawn(x, 1, 0, 1, "--", 1);
        DUE.is("22: drawn(10000, 0, 0, 1, 0)", x.drawn(10000, 0, 0, 1, 0), LastMap.OUTSIDE);
        DUE.is("22: drawn(-1, 0, 0, 1, 0)", x.drawn(-1, 0, 0, 1, 0), LastMap.OUTSIDE);
    }

    /* "left over by 65537": the last seed below it, and the first above it. */
    private static void drawnLeftOver() {
        LastMap x = with("a-");
        // 75 times 872 and 74 is 65474, number 4
        drawn(x, 872, 0, 1, "ab", 1);
        // 75 times 873 and 74 is 65549, left over 12, number 2
        drawn(x, 873, 0, 1, "d-", 1);
    }

    private static void drawnTimes() {
        LastMap x = with("abcdab");
        drawn(x, 9999, 0, 60, "cbdca-", 4);
        drawn(x, 0, 0, 60, "-aacad", 5);
        DUE.is("22: drawn(0, 0, 0, 61, 0)", x.drawn(0, 0, 0, 61, 0), LastMap.OUTSIDE);
        DUE.is("22: drawn(0, 0, 0, -1, 0)", x.drawn(0, 0, 0, -1, 0), LastMap.OUTSIDE);
        LastMap y = with("ab");
        y.hand(0, 2);
        for (int m = 0; m <= 60; m++) {
            drawn(y, 5, 0, m, m % 2 == 0 ? "ab" : "ba", m % 2 == 0 ? 0 : 2);
        }
    }

    /* "none, if there are none: nothing is drawn". */
    private static void drawnNoSlips() {
        LastMap x = with("aaaaaa");
        x.hand(0, 0);
        x.hand(1, 2);
        x.hand(2, 4);
        x.hand(3, 6);
        for (int hand = 0; hand < 4; hand++) {
            drawn(x, 17, hand, 1, "aaaaaa", 0);
            drawn(x, 17, hand, 60, "aaaaaa", 0);
        }
        LastMap y = with("---");
        y.hand(0, 8);
        y.hand(1, 14);
        drawn(y, 0, 0, 60, "---", 0);
        drawn(y, 0, 1, 60, "---", 0);
    }

    /* "of SLIPS that are some then": behind those that were drawn before. */
    private static void drawnByThen() {
        LastMap x = with("ab-");
        x.hand(0, 8);
        // 449, of o0 o1 number 1; then only o0; then none
        drawn(x, 5, 0, 1, "a--", 1);
        drawn(x, 5, 0, 2, "---", 2);
        drawn(x, 5, 0, 3, "---", 2);
        x.hand(1, 12);
        drawn(x, 5, 1, 60, "---", 2);
        LastMap y = with("abcdab");
        y.hand(0, 2);
        drawn(y, 17, 0, 5, "abcdba", 2);
    }

    /* It is told, not kept: nothing is other behind it. */
    private static void drawnAlone() {
        LastMap x = with("ab-");
        String before = Witness.inPassing(x);
        DUE.is("22: drawn(7, 0, 0, 60, 0) twice", x.drawn(7, 0, 0, 60, 0), x.drawn(7, 0, 0, 60, 0));
        DUE.same("22: all stays", Witness.inPassing(x), before);
    }

    // ---- promises 23 and 24

    /* An IMAGE of a new object is one, too; "STATE: it was not". */
    private static void imageOfNothing() {
        LastMap x = new LastMap();
        DUE.is("24: restore(0)", x.restore(0), LastMap.STATE);
        DUE.is("23: image(0)", x.image(0), 1);
        DUE.is("24: restore(1)", x.restore(1), LastMap.STATE);
        x.sites(2);
        Due.tell(x, 0, "d-");
        x.follow(0, 9);
        x.hand(1, 1);
        x.spades(3);
        DUE.is("24: restore(0)", x.restore(0), 1);
        DUE.same("24: all is as it was", Witness.inPassing(x), Witness.inPassing(new LastMap()));
        DUE.is("24: restore(1)", x.restore(1), LastMap.STATE);
        DUE.is("23: image(2)", x.image(2), LastMap.OUTSIDE);
        DUE.is("23: image(-1)", x.image(-1), LastMap.OUTSIDE);
        DUE.is("24: restore(2)", x.restore(2), LastMap.OUTSIDE);
        DUE.is("24: restore(-1)", x.restore(-1), LastMap.OUTSIDE);
    }

    /* "All but the PAD is kept": it stays as it is now, whether there were more signs or fewer. */
    private static void imageWithoutPad() {
        LastMap x = with("ab");
        Due.write(x, "s0c1a");
        x.image(0);
        DUE.is("23: the PAD stays", x.told(0), 5);
        Due.write(x, "d-");
        x.restore(0);
        DUE.is("24: the PAD stays", x.told(0), 2);
        DUE.is("6: map(1)", x.map(1), 1);
        DUE.same("6: MAP 1", Due.read(x, 1), "d-");
        Due.write(x, "-".repeat(40));
        x.restore(0);
        DUE.is("24: a full PAD stays", x.wipe(), 40);
        DUE.is("24: MAPS", x.told(2), 1);
    }

    /* An IMAGE kept again is the later one. */
    private static void imageOverImage() {
        LastMap x = with("ab");
        x.image(1);
        Due.tell(x, 0, "cd");
        x.image(1);
        Due.tell(x, 0, "--");
        DUE.is("24: restore(1)", x.restore(1), 1);
        DUE.same("24: MAP 0", Due.read(x, 0), "cd");
    }

    /* "an IMAGE (0, 1)": two of them, each with its own. */
    private static void imagesApart() {
        LastMap x = with("ab");
        x.image(0);
        x.sites(6);
        Due.tell(x, 5, "dddddd");
        x.spades(6);
        x.follow(5, 1);
        x.hand(0, 0);
        x.image(1);
        DUE.is("24: restore(0)", x.restore(0), 1);
        DUE.is("24: MAPS of IMAGE 0", x.told(2), 1);
        DUE.same("24: THE LAND of IMAGE 0", Due.readLand(x), "aa");
        DUE.is("24: restore(1)", x.restore(1), 1);
        DUE.is("24: MAPS of IMAGE 1", x.told(2), 32);
        DUE.same("24: THE LAND of IMAGE 1", Due.readLand(x), "dddddd");
        DUE.is("24: kinds of IMAGE 1", x.told(10), 0);
        DUE.is("24: restore(0) again", x.restore(0), 1);
        DUE.same("24: MAP 0 of IMAGE 0", Due.read(x, 0), "ab");
        DUE.is("24: SPADES of IMAGE 0", x.told(3), 1);
    }

    /* What is done behind an IMAGE, or behind its coming back, does not get into it. */
    private static void restoreTwice() {
        LastMap x = with("ab", "cd");
        x.image(0);
        for (int turn = 0; turn < 3; turn++) {
            Due.tell(x, 1, "--");
            Due.write(x, "o0");
            x.copy(0, 0);
            x.hand(turn, 0);
            x.spades(6);
            x.follow(1, 9);
            DUE.is("24: restore(0)", x.restore(0), 1);
            DUE.same("24: MAP 0", Due.read(x, 0), "ab");
            DUE.same("24: MAP 1", Due.read(x, 1), "cd");
            DUE.same("24: THE LAND", Due.readLand(x), "aa");
            DUE.is("24: kinds", x.told(10 + turn), 15);
            DUE.is("24: SPADES", x.told(3), 1);
        }
    }

    /* The SITES come back too, and with them what can be asked. */
    private static void restoreOfOtherSites() {
        for (int n = 2; n <= 6; n++) {
            for (int next = 2; next <= 6; next++) {
                LastMap x = with("d".repeat(n - 1) + "-");
                x.image(0);
                x.sites(next);
                Due.tell(x, 0, "b".repeat(next));
                x.restore(0);
                DUE.is("24: SITES", x.told(1), n);
                DUE.same("24: MAP 0", Due.read(x, 0), "d".repeat(n - 1) + "-");
                DUE.is("24: at(0, n)", x.at(0, n), LastMap.UNKNOWN);
                DUE.is("24: holds(1, -1)", x.holds(1, -1), (1 << n) - 1);
                DUE.is("24: years(0)", x.years(0), n);
                DUE.is("24: lost(1, 0, n less 1)", x.lost(1, 0, n - 1), '-');
            }
        }
    }

    /* "It is as it was when it was kept": FAR and the like are asked of the MAPS and kinds of then. */
    private static void restoreAsItWas() {
        LastMap x = with("ab", "ba");
        DUE.is("11: far", x.far(0, 1, 0, -1), 1);
        x.image(0);
        x.hand(0, 1);
        DUE.is("11: far by other kinds", x.far(0, 1, 0, -1), 2);
        Due.tell(x, 1, "ab");
        DUE.is("11: far of other MAPS", x.far(0, 1, 0, -1), 0);
        x.sites(3);
        DUE.is("11: far, not told", x.far(0, 1, 0, -1), LastMap.STATE);
        x.restore(0);
        DUE.is("11: far as it was", x.far(0, 1, 0, -1), 1);
        DUE.is("11: SLIP 0 as it was", x.far(0, 1, 0, 0), 100);
        DUE.is("14: tree as it was", x.tree(3, 0, 0), 1);
    }

    // ---- promise 25

    /* "0 signs, 1 SITES, 2 MAPS told (bits), 3 SPADES, 10 to 13 kinds of HANDS. OUTSIDE." */
    private static void toldEdges() {
        LastMap x = with("ab", "cd", "--");
        Due.write(x, "x");
        x.spades(6);
        x.hand(0, 1);
        x.hand(1, 2);
        x.hand(2, 4);
        x.hand(3, 0);
        int[] want = {1, 2, 7, 6, -2, -2, -2, -2, -2, -2, 1, 2, 4, 0};
        for (int what = -4; what <= 20; what++) {
            boolean asked = what >= 0 && what <= 13;
            DUE.is("25: told(" + what + ")", x.told(what), asked ? want[what] : LastMap.OUTSIDE);
        }
    }
}
