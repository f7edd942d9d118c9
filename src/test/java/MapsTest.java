/** Promises 1 to 8: a new object, sites, say, wipe, fault, map, at, hand. */
public final class MapsTest {
    private static final Due DUE = new Due();

    public static void main(String[] args) {
        newObject();
        sites();
        sayAndWipe();
        faultOfMap();
        faultOfWish();
        faultOfSlips();
        faultOfManySlips();
        map();
        at();
        hand();
        DUE.end();
    }

    private static void newObject() {
        LastMap x = new LastMap();
        DUE.is("1: told(0)", x.told(0), 0);
        DUE.is("1: told(1)", x.told(1), 6);
        DUE.is("1: told(2)", x.told(2), 0);
        DUE.is("1: told(3)", x.told(3), 1);
        for (int hand = 0; hand < 4; hand++) {
            DUE.is("1: told(1" + hand + ")", x.told(10 + hand), 15);
        }
        for (int map = 0; map < 6; map++) {
            DUE.is("1: at(" + map + ", 0)", x.at(map, 0), LastMap.STATE);
        }
        DUE.holds("1: the land is aaaaaa", Due.readLand(x).equals("aaaaaa"));
        DUE.is("1: restore(0)", x.restore(0), LastMap.STATE);
        DUE.is("1: restore(1)", x.restore(1), LastMap.STATE);
    }

    private static void sites() {
        LastMap x = new LastMap();
        DUE.is("2: sites(1)", x.sites(1), LastMap.OUTSIDE);
        DUE.is("2: sites(7)", x.sites(7), LastMap.OUTSIDE);
        DUE.is("2: sites(MIN)", x.sites(Integer.MIN_VALUE), LastMap.OUTSIDE);
        Due.tell(x, 2, "abcdab");
        x.follow(2, 9);
        x.hand(1, 6);
        x.spades(4);
        Due.write(x, "ab");
        DUE.is("2: sites(1) again", x.sites(1), LastMap.OUTSIDE);
        DUE.is("2: a refused call changes nothing", x.told(2), 4);
        DUE.holds("2: nor the land", Due.readLand(x).equals("abcdab"));
        DUE.is("2: sites(6)", x.sites(6), 6);
        DUE.is("2: all maps are gone", x.told(2), 0);
        DUE.is("2: at(2, 0)", x.at(2, 0), LastMap.STATE);
        DUE.holds("2: the land is a again", Due.readLand(x).equals("aaaaaa"));
        DUE.is("2: kinds stay", x.told(11), 6);
        DUE.is("2: spades stay", x.told(3), 4);
        DUE.is("2: the pad stays", x.told(0), 2);
        for (int n = 2; n <= 6; n++) {
            DUE.is("2: sites(" + n + ")", x.sites(n), n == 2 ? 6 : n - 1);
            DUE.is("2: land(n - 1)", x.land(n - 1), 'a');
            DUE.is("2: land(n)", x.land(n), LastMap.UNKNOWN);
        }
    }

    private static void sayAndWipe() {
        LastMap x = new LastMap();
        DUE.is("4: wipe() of nothing", x.wipe(), 0);
        DUE.is("3: say(32)", x.say(32), LastMap.OUTSIDE);
        DUE.is("3: say(127)", x.say(127), LastMap.OUTSIDE);
        DUE.is("3: say(-1)", x.say(-1), LastMap.OUTSIDE);
        for (int i = 1; i <= 40; i++) {
            DUE.is("3: say, the " + i + ". sign", x.say(i % 2 == 0 ? 33 : 126), i);
        }
        DUE.is("3: say(97), when it is full", x.say(97), LastMap.FULL);
        DUE.is("3: say(32), when it is full", x.say(32), LastMap.OUTSIDE);
        DUE.is("3: told(0)", x.told(0), 40);
        DUE.is("4: wipe()", x.wipe(), 40);
        DUE.is("4: told(0)", x.told(0), 0);
        DUE.is("3: say(97)", x.say(97), 1);
    }

    private static void fault(int n, int how, String text, int want) {
        LastMap x = Due.withSites(n);
        Due.write(x, text);
        DUE.is("5: fault(" + how + ") of '" + text + "' with " + n + " sites", x.fault(how), want);
        DUE.is("5: the pad stays", x.told(0), text.length());
    }

    private static void faultOfMap() {
        fault(2, -1, "ab", LastMap.OUTSIDE);
        fault(2, 3, "ab", LastMap.OUTSIDE);
        fault(2, 0, "", 0);
        fault(2, 0, "a", 1);
        fault(2, 0, "ab", LastMap.NONE);
        fault(2, 0, "aba", 2);
        fault(2, 0, "abz", 2);
        fault(6, 0, "abcd-", 5);
        fault(6, 0, "abcd-a", LastMap.NONE);
        fault(6, 0, "abcd-ab", 6);
        fault(6, 0, "abcde", 4);
        fault(6, 0, "e", 0);
        fault(6, 0, "`bcdab", 0);
        fault(6, 0, "aB", 1);
        fault(6, 0, "a?bcda", 1);
    }

    private static void faultOfWish() {
        fault(3, 2, "", 0);
        fault(3, 2, "?-", 2);
        fault(3, 2, "?-d", LastMap.NONE);
        fault(3, 2, "???", LastMap.NONE);
        fault(3, 2, "????", 3);
        fault(3, 2, "?!a", 1);
        fault(3, 2, "?ae", 2);
    }

    private static void faultOfSlips() {
        fault(6, 1, "", LastMap.NONE);
        fault(6, 1, "c", 1);
        fault(6, 1, "c5", 2);
        fault(6, 1, "c5d", LastMap.NONE);
        fault(6, 1, "c6d", 1);
        fault(6, 1, "c/d", 1);
        fault(6, 1, "c5-", 2);
        fault(6, 1, "c5e", 2);
        fault(6, 1, "c5?", 2);
        fault(6, 1, "s4", LastMap.NONE);
        fault(6, 1, "s5", 1);
        fault(6, 1, "t4", LastMap.NONE);
        fault(6, 1, "t5", 1);
        fault(6, 1, "o5", LastMap.NONE);
        fault(6, 1, "o6", 1);
        fault(6, 1, "o", 1);
        fault(6, 1, "a", 0);
        fault(6, 1, "-", 0);
        fault(6, 1, "s0t1o2c3a", LastMap.NONE);
        fault(6, 1, "s0t1o2c3as", 10);
        fault(6, 1, "s0t1o2c3aa", 9);
        fault(6, 1, "c0ab", 3);
        fault(2, 1, "s0t0o1c1a", LastMap.NONE);
        fault(2, 1, "s0t1", 3);
        fault(2, 1, "s1", 1);
        fault(2, 1, "o2", 1);
        fault(2, 1, "c2a", 1);
    }

    private static void faultOfManySlips() {
        fault(2, 1, "s0".repeat(10), LastMap.NONE);
        fault(2, 1, "s0".repeat(11), 20);
        fault(2, 1, "s0".repeat(10) + "x", 20);
        fault(2, 1, "s0".repeat(20), 20);
        fault(2, 1, "s0".repeat(9) + "s", 19);
        fault(2, 1, "c0a".repeat(10), LastMap.NONE);
        fault(2, 1, "c0a".repeat(10) + "o0", 30);
        fault(2, 1, "c0a".repeat(10) + "c", 30);
    }

    private static void map() {
        LastMap x = Due.withSites(3);
        Due.write(x, "a-");
        DUE.is("6: map(-1)", x.map(-1), LastMap.UNKNOWN);
        DUE.is("6: map(6)", x.map(6), LastMap.UNKNOWN);
        DUE.is("6: map(0) with a fault", x.map(0), LastMap.NO);
        DUE.is("6: the pad stays", x.told(0), 2);
        DUE.is("6: no map is told", x.told(2), 0);
        x.say('d');
        DUE.is("6: map(0)", x.map(0), 1);
        DUE.is("6: the pad is empty", x.told(0), 0);
        DUE.is("6: map(1) of nothing", x.map(1), LastMap.NO);
        DUE.is("6: told(2)", x.told(2), 1);
        DUE.is("6: map(5)", Due.tell(x, 5, "bcd"), 1);
        DUE.is("6: told(2)", x.told(2), 33);
        DUE.holds("6: map 0 is a-d", Due.read(x, 0).equals("a-d"));
        DUE.is("6: map(0) once more", Due.tell(x, 0, "---"), 1);
        DUE.holds("6: map 0 is ---", Due.read(x, 0).equals("---"));
        DUE.holds("6: map 5 is bcd", Due.read(x, 5).equals("bcd"));
        DUE.is("6: a wish is no map", Due.tell(x, 0, "?ab"), LastMap.NO);
        LastMap y = new LastMap();
        Due.tell(y, 3, "dcba-a");
        DUE.holds("6: map 3 is dcba-a", Due.read(y, 3).equals("dcba-a"));
    }

    private static void at() {
        LastMap x = Due.withSites(2);
        DUE.is("7: at(-1, 0)", x.at(-1, 0), LastMap.UNKNOWN);
        DUE.is("7: at(6, 0)", x.at(6, 0), LastMap.UNKNOWN);
        DUE.is("7: at(0, 2) of a map not told", x.at(0, 2), LastMap.UNKNOWN);
        DUE.is("7: at(0, 1) of a map not told", x.at(0, 1), LastMap.STATE);
        Due.tell(x, 0, "d-");
        DUE.is("7: at(0, 0)", x.at(0, 0), 100);
        DUE.is("7: at(0, 1)", x.at(0, 1), 45);
        DUE.is("7: at(0, 2)", x.at(0, 2), LastMap.UNKNOWN);
        DUE.is("7: at(0, -1)", x.at(0, -1), LastMap.UNKNOWN);
    }

    private static void hand() {
        LastMap x = new LastMap();
        DUE.is("8: hand(-1, 0)", x.hand(-1, 0), LastMap.UNKNOWN);
        DUE.is("8: hand(4, 16)", x.hand(4, 16), LastMap.UNKNOWN);
        DUE.is("8: hand(0, 16)", x.hand(0, 16), LastMap.OUTSIDE);
        DUE.is("8: hand(0, -1)", x.hand(0, -1), LastMap.OUTSIDE);
        DUE.is("8: hand(0, 0)", x.hand(0, 0), 15);
        DUE.is("8: hand(0, 15)", x.hand(0, 15), 0);
        DUE.is("8: hand(3, 9)", x.hand(3, 9), 15);
        DUE.is("8: hand(3, 1)", x.hand(3, 1), 9);
        DUE.is("8: told(10)", x.told(10), 15);
        DUE.is("8: told(13)", x.told(13), 1);
    }
}
