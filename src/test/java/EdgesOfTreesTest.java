/** The sentences of part 3 and of promises 14 to 17 that name an edge, one function for each, both sides of it. */
public final class EdgesOfTreesTest {
    private static final Due DUE = new Due();
    private static final int NONE = LastMap.NONE;

    public static void main(String[] args) {
        treeOfOne();
        treesOfAlike();
        treeOfPairs();
        treeOfSomeMaps();
        treeOneWay();
        treeTies();
        treeNone();
        treeNoKinds();
        treeOfThemAll();
        treeQuestions();
        lostOfOne();
        lostOfAlike();
        lostNotTold();
        lostFirstBySigns();
        lostNone();
        wishedAlready();
        wishedFirstRow();
        wishedRead();
        wishedReadAll();
        wishedReadBits();
        wishedNone();
        wishedLong();
        holdsOfOne();
        holdsBits();
        mostTies();
        mostOfSix();
        DUE.end();
    }

    private static LastMap with(String... maps) {
        LastMap x = Due.withSites(maps[0].length());
        for (int map = 0; map < maps.length; map++) {
            Due.tell(x, map, maps[map]);
        }
        return x;
    }

    // ---- promise 14

    /* From which each MAP of the set was drawn, told from the lowest one on. */
    private static void tree(LastMap x, int set, int hand, int sum, int many, int... from) {
        String call = "14: tree(" + set + ", " + hand + ", ";
        DUE.is(call + "0)", x.tree(set, hand, 0), sum);
        DUE.is(call + "1)", x.tree(set, hand, 1), many);
        int next = 0;
        for (int map = 0; map < 6; map++) {
            boolean ofTheSet = (set >> map & 1) == 1;
            DUE.is(call + (10 + map) + ")", x.tree(set, hand, 10 + map), ofTheSet ? from[next] : LastMap.OUTSIDE);
            next += ofTheSet ? 1 : 0;
        }
    }

    /* "one of them is the first": of a set of one it is that one, and nothing is drawn. */
    private static void treeOfOne() {
        LastMap x = with("ab", "cd", "--", "a-", "-a", "dd");
        x.hand(1, 0);
        for (int map = 0; map < 6; map++) {
            tree(x, 1 << map, 0, 0, 1, NONE);
            tree(x, 1 << map, 1, 0, 1, NONE);
        }
    }

    /* "none from itself by others"; "none, which is behind all MAPS"; m MAPS have m to the power of m less 1 trees. */
    private static void treesOfAlike() {
        LastMap x = with("a-", "a-", "a-", "a-", "a-", "a-");
        x.hand(2, 0);
        tree(x, 3, 2, 0, 2, 1, NONE);
        tree(x, 7, 2, 0, 9, 1, 2, NONE);
        tree(x, 15, 2, 0, 64, 1, 2, 3, NONE);
        tree(x, 62, 2, 0, 625, 2, 3, 4, 5, NONE);
        tree(x, 63, 2, 0, 7776, 1, 2, 3, 4, 5, NONE);
        tree(x, 42, 2, 0, 9, 3, 5, NONE);
    }

    /* Two pairs, each drawn from itself, would cost nothing: one SLIP row between them must be. */
    private static void treeOfPairs() {
        LastMap x = with("ab", "ab", "cd", "cd");
        x.hand(0, 1);
        tree(x, 15, 0, 2, 16, 1, 2, 3, NONE);
    }

    /* MAPS that are not of the set are not drawn from. */
    private static void treeOfSomeMaps() {
        LastMap x = with("abcd", "bacd", "badc", "abdc", "----", "abcd");
        x.hand(0, 2);
        tree(x, 5, 0, 2, 2, 2, NONE);
        tree(x, 7, 0, 2, 3, 1, 2, NONE);
        tree(x, 33, 0, 0, 2, 5, NONE);
        tree(x, 10, 0, 2, 2, 3, NONE);
    }

    /* A HAND that only leaves out draws from the fuller one, never back. */
    private static void treeOneWay() {
        LastMap x = with("--", "a-", "ab");
        x.hand(3, 8);
        tree(x, 7, 3, 2, 1, 1, 2, NONE);
        tree(x, 5, 3, 2, 1, 2, NONE);
        LastMap y = with("ab", "a-", "--");
        y.hand(3, 8);
        tree(y, 7, 3, 2, 1, NONE, 0, 1);
    }

    /* "of these the first by MAPS: from which MAP 0 was drawn, then MAP 1 and so on". */
    private static void treeTies() {
        LastMap x = with("ab", "-b", "a-", "--");
        x.hand(0, 8);
        tree(x, 15, 0, 3, 2, NONE, 0, 0, 1);
        LastMap y = with("--", "-b", "a-", "ab");
        y.hand(0, 8);
        tree(y, 15, 0, 3, 2, 1, 3, 3, NONE);
        LastMap z = with("ab", "ba");
        tree(z, 3, 0, 1, 2, 1, NONE);
        z.hand(0, 9);
        tree(z, 3, 0, 2, 2, 1, NONE);
    }

    /* "NONE, if there is none": to every question. */
    private static void treeNone() {
        LastMap x = with("a-", "-b", "ab");
        x.hand(0, 8);
        tree(x, 3, 0, NONE, NONE, NONE, NONE);
        tree(x, 7, 0, 2, 1, 2, 2, NONE);
        x.hand(1, 4);
        tree(x, 7, 1, NONE, NONE, NONE, NONE, NONE);
    }

    private static void treeNoKinds() {
        LastMap x = with("ab", "ab", "ba");
        x.hand(0, 0);
        tree(x, 3, 0, 0, 2, 1, NONE);
        tree(x, 7, 0, NONE, NONE, NONE, NONE, NONE);
        tree(x, 4, 0, 0, 1, NONE);
    }

    /* Six MAPS in a row, each one SLIP from the next: a tree is the row with any of them as its first. */
    private static void treeOfThemAll() {
        LastMap x = with("aaaaaa", "baaaaa", "bbaaaa", "bbbaaa", "bbbbaa", "bbbbba");
        x.hand(1, 1);
        tree(x, 63, 1, 5, 6, 1, 2, 3, 4, 5, NONE);
    }

    /* "OUTSIDE: the set 1 to 63, what (also of a MAP that is not of the set)". */
    private static void treeQuestions() {
        LastMap x = with("ab", "ab", "ab", "ab", "ab", "ab");
        for (int what = -3; what <= 18; what++) {
            int want = what == 0 ? 0 : what == 1 ? 7776 : what >= 10 && what < 15 ? what - 9
                : what == 15 ? NONE : LastMap.OUTSIDE;
            DUE.is("14: tree(63, 0, " + what + ")", x.tree(63, 0, what), want);
        }
        DUE.is("14: tree(64, 0, 0)", x.tree(64, 0, 0), LastMap.OUTSIDE);
        DUE.is("14: tree(0, 0, 0)", x.tree(0, 0, 0), LastMap.OUTSIDE);
        DUE.is("14: tree(1, 0, 11)", x.tree(1, 0, 11), LastMap.OUTSIDE);
    }

    // ---- promise 15

    private static void lost(LastMap x, int set, int hand, int sum, String signs) {
        String call = "15: lost(" + set + ", " + hand + ", ";
        DUE.is(call + "-1)", x.lost(set, hand, -1), sum);
        for (int i = 0; i < signs.length(); i++) {
            DUE.is(call + i + ")", x.lost(set, hand, i), signs.charAt(i));
        }
        for (int i : new int[] {signs.length(), 6, 7, -2, Integer.MIN_VALUE, Integer.MAX_VALUE}) {
            DUE.is(call + i + ")", x.lost(set, hand, i), NONE);
        }
    }

    private static void noLost(LastMap x, int set, int hand) {
        for (int i : new int[] {-1, 0, 1, 6, -2, Integer.MIN_VALUE, Integer.MAX_VALUE}) {
            DUE.is("15: lost(" + set + ", " + hand + ", " + i + ")", x.lost(set, hand, i), NONE);
        }
    }

    /* All of a set of one are drawn from itself. */
    private static void lostOfOne() {
        for (int n = 2; n <= 6; n++) {
            LastMap x = Due.withSites(n);
            Due.tell(x, 5, "d-cbad".substring(0, n));
            x.hand(3, 0);
            lost(x, 32, 0, 0, "d-cbad".substring(0, n));
            lost(x, 32, 3, 0, "d-cbad".substring(0, n));
        }
    }

    private static void lostOfAlike() {
        LastMap x = with("-----d", "-----d", "-----d", "-----d", "-----d", "-----d");
        x.hand(3, 0);
        lost(x, 63, 0, 0, "-----d");
        lost(x, 63, 3, 0, "-----d");
    }

    /* "a MAP (any that could be)": what was never told is the only one from which they could be drawn. */
    private static void lostNotTold() {
        LastMap x = with("a-----", "-b----", "--c---", "---d--", "----a-", "-----b");
        x.hand(1, 8);
        lost(x, 63, 1, 30, "abcdab");
        lost(x, 33, 1, 2, "a----b");
        x.hand(2, 2);
        noLost(x, 3, 2);
    }

    /* "the first by signs (a b c d -)". */
    private static void lostFirstBySigns() {
        LastMap x = with("-d", "dd");
        x.hand(1, 9);
        lost(x, 3, 1, 1, "dd");
        x.hand(2, 1);
        lost(x, 3, 2, 1, "-d");
        lost(with("bd", "ad"), 3, 0, 1, "ad");
        lost(with("db", "da", "dc"), 7, 0, 2, "da");
        lost(with("ba", "ab"), 3, 0, 1, "ab");
        LastMap y = with("dddddd", "ddddd-");
        y.hand(0, 9);
        lost(y, 3, 0, 1, "dddddd");
        LastMap z = with("aa", "bb", "aa");
        z.hand(0, 1);
        lost(z, 3, 0, 2, "aa");
        lost(z, 7, 0, 2, "aa");
        Due.tell(z, 0, "bb");
        lost(z, 7, 0, 2, "bb");
    }

    private static void lostNone() {
        LastMap x = with("ab", "cd");
        x.hand(0, 0);
        noLost(x, 3, 0);
        x.hand(0, 8);
        noLost(x, 3, 0);
        x.hand(0, 14);
        noLost(x, 3, 0);
    }

    // ---- promise 16

    private static void wished(String map, String wish, int kinds, int read, int... slips) {
        LastMap x = with(map);
        x.hand(2, kinds);
        Due.write(x, wish);
        String call = "16: wished of " + map + ", " + wish + " by kinds " + kinds + ", READ " + read;
        DUE.is(call, x.wished(0, 2, read, -1), slips.length);
        for (int i = 0; i < slips.length; i++) {
            DUE.is(call + ", SLIP " + i, x.wished(0, 2, read, i), slips[i]);
        }
        for (int i : new int[] {slips.length, slips.length + 1, -2, Integer.MIN_VALUE, Integer.MAX_VALUE}) {
            DUE.is(call + ", SLIP " + i, x.wished(0, 2, read, i), NONE);
        }
        DUE.same("16: the MAP stays", Due.read(x, 0), map);
        DUE.is("16: the PAD stays", x.wipe(), wish.length());
    }

    private static void notWished(String map, String wish, int kinds, int read) {
        LastMap x = with(map);
        x.hand(2, kinds);
        Due.write(x, wish);
        for (int i : new int[] {-1, 0, 1, -2, Integer.MIN_VALUE, Integer.MAX_VALUE}) {
            DUE.is("16: wished of " + map + ", " + wish + " by kinds " + kinds + ", READ " + read + ", " + i,
                x.wished(0, 2, read, i), NONE);
        }
    }

    /* "? is any": what is as the WISH already needs no SLIPS, by any HAND and past any READ SITES. */
    private static void wishedAlready() {
        for (int n = 2; n <= 6; n++) {
            String map = "d-abcd".substring(0, n);
            for (int read = 0; read < 1 << n; read++) {
                wished(map, "?".repeat(n), 0, read);
                wished(map, map, 0, read);
                wished(map, "?" + map.substring(1), 15, read);
            }
        }
    }

    /* "the fewest SLIPS"; "the first row". */
    private static void wishedFirstRow() {
        wished("ab", "?a", 15, 0, 10);
        wished("ab", "?a", 14, 0, 100);
        wished("ab", "?a", 12, 0, 200);
        wished("a-", "-?", 15, 0, 100);
        wished("a-", "-?", 13, 0, 300);
        wished("ab", "b?", 15, 0, 1);
        wished("ab", "ba", 15, 0, 100);
        wished("ab", "dc", 15, 0, 3, 12);
        wished("abc", "?-?", 15, 0, 310);
        wished("-bc", "?-?", 15, 0, 100);
        wished("-bc", "?-?", 13, 0, 200);
    }

    /* "at each SITE that is READ (bits) as it was at first": behind the last SLIP. */
    private static void wishedRead() {
        wished("a-", "-?", 15, 2, 300);
        wished("ab", "?a", 15, 1, 10);
        wished("ab", "?a", 14, 1, 200);
        wished("ab-", "??a", 6, 3, 100, 210, 100);
        wished("ab-", "??a", 6, 1, 200, 110);
        wished("ab-", "??a", 6, 2, 100, 110, 100);
        wished("ab-", "??a", 6, 0, 100, 110);
        wished("ab-", "a?a", 15, 3, 20);
    }

    /* A READ SITE can't be wished to be other; as it is it may be wished. */
    private static void wishedReadAll() {
        for (int n = 2; n <= 6; n++) {
            String map = "abcd-a".substring(0, n);
            int all = (1 << n) - 1;
            for (int site = 0; site < n; site++) {
                String other = map.substring(0, site) + (map.charAt(site) == 'd' ? "c" : "d") + map.substring(site + 1);
                notWished(map, other, 15, all);
                notWished(map, other, 15, 1 << site);
                int letter = map.charAt(site) == 'd' ? 2 : 3;
                wished(map, other, 1, all - (1 << site), 10 * site + letter);
            }
        }
    }

    /* "OUTSIDE: bits of SITES": of those that there are. */
    private static void wishedReadBits() {
        for (int n = 2; n <= 6; n++) {
            LastMap x = with("a".repeat(n));
            Due.write(x, "?".repeat(n));
            DUE.is("16: wished(0, 0, all, -1)", x.wished(0, 0, (1 << n) - 1, -1), 0);
            DUE.is("16: wished(0, 0, one more, -1)", x.wished(0, 0, 1 << n, -1), LastMap.OUTSIDE);
            DUE.is("16: wished(0, 0, all and one more, -1)", x.wished(0, 0, (2 << n) - 1, -1), LastMap.OUTSIDE);
            DUE.is("16: wished(0, 0, -1, -1)", x.wished(0, 0, -1, -1), LastMap.OUTSIDE);
        }
    }

    private static void wishedNone() {
        notWished("ab", "?-", 7, 0);
        notWished("ab", "c?", 14, 0);
        notWished("ab", "b?", 0, 0);
        notWished("ab", "b?", 4, 0);
        notWished("abcd", "d???", 2, 8);
    }

    /* A WISH may need all SITES, and more SLIPS than a PAD holds. */
    private static void wishedLong() {
        wished("------", "dcbadc", 15, 0, 3, 12, 21, 30, 43, 52);
        wished("abcd--", "--dcba", 2, 0, 100, 110, 100, 120, 110, 100, 130, 120, 110, 100, 140, 130, 120, 110);
        wished("abcd--", "?-dcb?", 2, 0, 110, 120, 110, 130, 120, 110);
    }

    // ---- promise 17

    /* All SITES hold in a set of one, and most of it have what it has. */
    private static void holdsOfOne() {
        for (int n = 2; n <= 6; n++) {
            LastMap x = Due.withSites(n);
            Due.tell(x, 5, "-dcba-".substring(0, n));
            DUE.is("17: holds(32, -1) with " + n + " SITES", x.holds(32, -1), (1 << n) - 1);
            for (int site = 0; site < n; site++) {
                DUE.is("17: holds(32, " + site + ")", x.holds(32, site), "-dcba-".charAt(site));
            }
            DUE.is("17: holds(32, n)", x.holds(32, n), LastMap.UNKNOWN);
            DUE.is("17: holds(32, -2)", x.holds(32, -2), LastMap.UNKNOWN);
        }
    }

    /* "SITES at which all MAPS of a set are alike, as bits": each bit alone. */
    private static void holdsBits() {
        LastMap x = with("aaaaaa", "abbbbb", "cacccc", "ddaddd", "---a--", "bbbbab");
        int[] want = {63, 1, 2, 4, 8, 16};
        for (int map = 1; map < 6; map++) {
            DUE.is("17: holds of MAPS 0 and " + map, x.holds(1 | 1 << map, -1), want[map]);
        }
        DUE.is("17: holds(63, -1)", x.holds(63, -1), 0);
        Due.tell(x, 5, "bbbbba");
        DUE.is("17: holds(33, -1)", x.holds(33, -1), 32);
        LastMap y = with("ab-", "ab-", "ab-", "ab-", "ab-", "abd");
        DUE.is("17: holds(31, -1)", y.holds(31, -1), 7);
        DUE.is("17: holds(63, -1)", y.holds(63, -1), 3);
    }

    /* "the sign that most of them have, the first by signs": a b c d -. */
    private static void mostTies() {
        LastMap x = with("-d", "d-", "cb", "bc", "aa", "-a");
        DUE.is("17: - and d", x.holds(3, 0), 'd');
        DUE.is("17: d and -", x.holds(3, 1), 'd');
        DUE.is("17: -, d and c", x.holds(7, 0), 'c');
        DUE.is("17: d, -, b", x.holds(7, 1), 'b');
        DUE.is("17: all five once", x.holds(31, 0), 'a');
        DUE.is("17: - twice, the others once", x.holds(63, 0), '-');
        DUE.is("17: a twice, the others once", x.holds(63, 1), 'a');
        DUE.is("17: - and -", x.holds(33, 0), '-');
    }

    private static void mostOfSix() {
        LastMap x = with("c-", "c-", "b-", "b-", "ad", "ad");
        DUE.is("17: three pairs", x.holds(63, 0), 'a');
        DUE.is("17: four and two", x.holds(63, 1), '-');
        DUE.is("17: two pairs", x.holds(15, 0), 'b');
        DUE.is("17: two and two", x.holds(60, 1), 'd');
        DUE.is("17: two and one", x.holds(7, 0), 'c');
    }
}
