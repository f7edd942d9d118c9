/** Promises 18 to 25: spades, land, years, follow, drawn, image, restore, told. */
public final class LandTest {
    private static final Due DUE = new Due();

    public static void main(String[] args) {
        spades();
        land();
        years();
        follow();
        followInTurn();
        drawn();
        drawnRefused();
        images();
        imagesApart();
        told();
        DUE.end();
    }

    private static void spades() {
        LastMap x = Due.withSites(2);
        DUE.is("18: spades(0)", x.spades(0), LastMap.OUTSIDE);
        DUE.is("18: spades(7)", x.spades(7), LastMap.OUTSIDE);
        DUE.is("18: spades(6)", x.spades(6), 1);
        DUE.is("18: spades(2)", x.spades(2), 6);
        DUE.is("18: told(3)", x.told(3), 2);
        DUE.is("18: spades(1)", x.spades(1), 2);
        DUE.is("18: told(3)", x.told(3), 1);
    }

    private static void land() {
        LastMap x = Due.withSites(3);
        DUE.is("19: land(-1)", x.land(-1), LastMap.UNKNOWN);
        DUE.is("19: land(3)", x.land(3), LastMap.UNKNOWN);
        DUE.is("19: land(2)", x.land(2), 'a');
        Due.tell(x, 0, "bc-");
        DUE.is("19: land(0)", x.land(0), 'a');
        x.follow(0, 9);
        DUE.is("19: land(0)", x.land(0), 'b');
        DUE.is("19: land(2)", x.land(2), '-');
    }

    private static void years() {
        LastMap x = new LastMap();
        Due.tell(x, 0, "bcd-bc");
        Due.tell(x, 1, "aaaaaa");
        Due.tell(x, 2, "abaaab");
        int[] want = {6, 3, 2, 2, 2, 1};
        for (int v = 1; v <= 6; v++) {
            x.spades(v);
            DUE.is("20: years(0) with " + v + " spades", x.years(0), want[v - 1]);
            DUE.is("20: years(1) with " + v + " spades", x.years(1), 0);
            DUE.is("20: years(2) with " + v + " spades", x.years(2), v == 1 ? 2 : 1);
        }
        DUE.holds("20: the land stays", Due.readLand(x).equals("aaaaaa"));
        DUE.is("20: years(-1)", x.years(-1), LastMap.UNKNOWN);
        DUE.is("20: years(6)", x.years(6), LastMap.UNKNOWN);
        DUE.is("20: years(3)", x.years(3), LastMap.STATE);
    }

    private static void follow() {
        LastMap x = new LastMap();
        DUE.is("21: follow(6, 10)", x.follow(6, 10), LastMap.UNKNOWN);
        DUE.is("21: follow(-1, 0)", x.follow(-1, 0), LastMap.UNKNOWN);
        DUE.is("21: follow(0, 10)", x.follow(0, 10), LastMap.OUTSIDE);
        DUE.is("21: follow(0, -1)", x.follow(0, -1), LastMap.OUTSIDE);
        DUE.is("21: follow(0, 0)", x.follow(0, 0), LastMap.STATE);
        Due.tell(x, 0, "bacada");
        DUE.is("21: follow(0, 0)", x.follow(0, 0), 3);
        DUE.holds("21: the land stays", Due.readLand(x).equals("aaaaaa"));
        DUE.is("21: follow(0, 1)", x.follow(0, 1), 2);
        DUE.holds("21: one site is made", Due.readLand(x).equals("baaaaa"));
        DUE.is("21: follow(0, 9)", x.follow(0, 9), 0);
        DUE.holds("21: all sites are made", Due.readLand(x).equals("bacada"));
    }

    private static void followInTurn() {
        LastMap x = new LastMap();
        Due.tell(x, 0, "bbbbbb");
        Due.tell(x, 1, "------");
        x.spades(2);
        DUE.is("21: follow(0, 2)", x.follow(0, 2), 2);
        DUE.holds("21: four sites are made", Due.readLand(x).equals("bbbbaa"));
        DUE.is("21: follow(1, 1)", x.follow(1, 1), 4);
        DUE.holds("21: two of them anew", Due.readLand(x).equals("--bbaa"));
        DUE.is("21: years(0)", x.years(0), 2);
        DUE.is("21: follow(0, 1)", x.follow(0, 1), 2);
        DUE.holds("21: and back", Due.readLand(x).equals("bbbbaa"));
    }

    private static void drawn() {
        LastMap x = Due.withSites(2);
        Due.tell(x, 0, "a-");
        DUE.is("22: drawn(0, 0, 0, 0, 0)", x.drawn(0, 0, 0, 0, 0), 'a');
        DUE.is("22: drawn(0, 0, 0, 0, 1)", x.drawn(0, 0, 0, 0, 1), '-');
        // x is 74; ten SLIPS are some (c0b c0c c0d c1a c1b c1c c1d s0 t0 o0): number 4, c1b
        DUE.is("22: drawn(0, 0, 0, 1, 0)", x.drawn(0, 0, 0, 1, 0), 'a');
        DUE.is("22: drawn(0, 0, 0, 1, 1)", x.drawn(0, 0, 0, 1, 1), 'b');
        DUE.is("22: drawn(0, 0, 0, 1, -1)", x.drawn(0, 0, 0, 1, -1), 1);
        // then x is 5624; ab: six c, s0, t0, o0, o1: number 4, c1c
        DUE.is("22: drawn(0, 0, 0, 2, 1)", x.drawn(0, 0, 0, 2, 1), 'c');
        // then x is 5624 * 75 + 74 = 421874, left over 28652; ac: number 2, c0d
        DUE.is("22: drawn(0, 0, 0, 3, 0)", x.drawn(0, 0, 0, 3, 0), 'd');
        DUE.is("22: drawn(0, 0, 0, 3, -1)", x.drawn(0, 0, 0, 3, -1), 2);
        x.hand(1, 0);
        DUE.is("22: drawn(7, 0, 1, 60, -1)", x.drawn(7, 0, 1, 60, -1), 0);
        x.hand(2, 8);
        DUE.is("22: drawn(7, 0, 2, 60, 0)", x.drawn(7, 0, 2, 60, 0), '-');
        x.hand(3, 2);
        DUE.is("22: drawn(9, 0, 3, 1, 0)", x.drawn(9, 0, 3, 1, 0), '-');
        DUE.is("22: drawn(9, 0, 3, 60, 0)", x.drawn(9, 0, 3, 60, 0), 'a');
        DUE.is("22: drawn(9, 0, 3, 59, -1)", x.drawn(9, 0, 3, 59, -1), 2);
        DUE.holds("22: the map stays", Due.read(x, 0).equals("a-"));
        // of bb eight are some (c0a c0c c0d c1a c1c c1d o0 o1); x is 3074: number 2; 2924: number 4
        Due.tell(x, 1, "bb");
        DUE.is("22: drawn(40, 1, 0, 1, 0)", x.drawn(40, 1, 0, 1, 0), 'd');
        DUE.is("22: drawn(38, 1, 0, 1, 1)", x.drawn(38, 1, 0, 1, 1), 'c');
        // x is 224, number 0: c0a
        DUE.is("22: drawn(2, 1, 0, 1, 0)", x.drawn(2, 1, 0, 1, 0), 'a');
    }

    private static void drawnRefused() {
        LastMap x = Due.withSites(2);
        Due.tell(x, 0, "a-");
        DUE.is("22: drawn(-1, 6, 0, 0, 0)", x.drawn(-1, 6, 0, 0, 0), LastMap.UNKNOWN);
        DUE.is("22: drawn(-1, 0, 4, 0, 0)", x.drawn(-1, 0, 4, 0, 0), LastMap.UNKNOWN);
        DUE.is("22: drawn(-1, 0, 0, 0, 2)", x.drawn(-1, 0, 0, 0, 2), LastMap.UNKNOWN);
        DUE.is("22: drawn(0, 0, 0, 61, -2)", x.drawn(0, 0, 0, 61, -2), LastMap.UNKNOWN);
        DUE.is("22: drawn(-1, 1, 0, 0, 0)", x.drawn(-1, 1, 0, 0, 0), LastMap.OUTSIDE);
        DUE.is("22: drawn(10000, 1, 0, 0, 0)", x.drawn(10000, 1, 0, 0, 0), LastMap.OUTSIDE);
        DUE.is("22: drawn(0, 1, 0, 61, 0)", x.drawn(0, 1, 0, 61, 0), LastMap.OUTSIDE);
        DUE.is("22: drawn(0, 1, 0, -1, -1)", x.drawn(0, 1, 0, -1, -1), LastMap.OUTSIDE);
        DUE.is("22: drawn(9999, 1, 0, 60, -1)", x.drawn(9999, 1, 0, 60, -1), LastMap.STATE);
        DUE.is("22: drawn(9999, 0, 0, 0, -1)", x.drawn(9999, 0, 0, 0, -1), 0);
    }

    private static void images() {
        LastMap x = Due.withSites(3);
        DUE.is("23: image(-1)", x.image(-1), LastMap.OUTSIDE);
        DUE.is("23: image(2)", x.image(2), LastMap.OUTSIDE);
        DUE.is("24: restore(-1)", x.restore(-1), LastMap.OUTSIDE);
        DUE.is("24: restore(2)", x.restore(2), LastMap.OUTSIDE);
        DUE.is("24: restore(0)", x.restore(0), LastMap.STATE);
        Due.tell(x, 4, "bcd");
        x.hand(2, 5);
        x.spades(2);
        x.follow(4, 1);
        Due.write(x, "xyz");
        DUE.is("23: image(1)", x.image(1), 1);
        DUE.is("24: restore(0)", x.restore(0), LastMap.STATE);
        x.sites(5);
        x.hand(2, 9);
        x.hand(0, 1);
        x.spades(6);
        Due.tell(x, 4, "-----");
        Due.tell(x, 0, "ddddd");
        x.follow(0, 1);
        Due.write(x, "pqrs");
        DUE.is("24: restore(1)", x.restore(1), 1);
        DUE.is("24: the pad stays", x.told(0), 4);
        DUE.is("24: sites", x.told(1), 3);
        DUE.is("24: maps", x.told(2), 16);
        DUE.is("24: spades", x.told(3), 2);
        DUE.is("24: kinds of hand 0", x.told(10), 15);
        DUE.is("24: kinds of hand 2", x.told(12), 5);
        DUE.holds("24: map 4", Due.read(x, 4).equals("bcd"));
        DUE.holds("24: the land", Due.readLand(x).equals("bca"));
    }

    private static void imagesApart() {
        LastMap x = Due.withSites(2);
        Due.tell(x, 0, "ab");
        x.image(0);
        Due.tell(x, 0, "cd");
        x.image(1);
        Due.tell(x, 0, "--");
        DUE.is("24: restore(0)", x.restore(0), 1);
        DUE.holds("24: map 0 is ab", Due.read(x, 0).equals("ab"));
        Due.tell(x, 0, "dd");
        x.hand(0, 3);
        x.spades(5);
        DUE.is("24: restore(0) again", x.restore(0), 1);
        DUE.holds("24: map 0 is ab still", Due.read(x, 0).equals("ab"));
        DUE.is("24: kinds", x.told(10), 15);
        DUE.is("24: restore(1)", x.restore(1), 1);
        DUE.holds("24: map 0 is cd", Due.read(x, 0).equals("cd"));
        DUE.is("23: image(0) once more", x.image(0), 1);
        Due.tell(x, 0, "aa");
        x.restore(0);
        DUE.holds("23: map 0 is cd, as kept last", Due.read(x, 0).equals("cd"));
    }

    private static void told() {
        LastMap x = Due.withSites(2);
        int[] not = {-1, 4, 9, 14, -10, Integer.MIN_VALUE, Integer.MAX_VALUE};
        for (int what : not) {
            DUE.is("25: told(" + what + ")", x.told(what), LastMap.OUTSIDE);
        }
        Due.tell(x, 1, "ab");
        Due.tell(x, 3, "ab");
        Due.write(x, "abc");
        x.spades(4);
        for (int hand = 0; hand < 4; hand++) {
            x.hand(hand, 2 * hand + 1);
            DUE.is("25: told(1" + hand + ")", x.told(10 + hand), 2 * hand + 1);
        }
        DUE.is("25: told(0)", x.told(0), 3);
        DUE.is("25: told(1)", x.told(1), 2);
        DUE.is("25: told(2)", x.told(2), 10);
        DUE.is("25: told(3)", x.told(3), 4);
    }
}
