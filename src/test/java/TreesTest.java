/** Promises 14 to 17: tree, lost, wished, holds. */
public final class TreesTest {
    private static final Due DUE = new Due();

    public static void main(String[] args) {
        tree();
        treeOfSome();
        noTree();
        treeOfAlike();
        treeRefused();
        lost();
        lostRefused();
        wished();
        wishedRefused();
        holds();
        holdsRefused();
        DUE.end();
    }

    private static LastMap with(String... maps) {
        LastMap x = Due.withSites(maps[0].length());
        for (int map = 0; map < maps.length; map++) {
            Due.tell(x, map, maps[map]);
        }
        return x;
    }

    private static void tree() {
        LastMap x = with("abc", "bac", "ab-");
        DUE.is("14: tree(7, 0, 0)", x.tree(7, 0, 0), 2);
        DUE.is("14: tree(7, 0, 1)", x.tree(7, 0, 1), 3);
        DUE.is("14: tree(7, 0, 10)", x.tree(7, 0, 10), 1);
        DUE.is("14: tree(7, 0, 11)", x.tree(7, 0, 11), LastMap.NONE);
        DUE.is("14: tree(7, 0, 12)", x.tree(7, 0, 12), 0);
        x.hand(3, 8);
        DUE.is("14: tree(5, 3, 0)", x.tree(5, 3, 0), 1);
        DUE.is("14: tree(5, 3, 1)", x.tree(5, 3, 1), 1);
        DUE.is("14: tree(5, 3, 10)", x.tree(5, 3, 10), LastMap.NONE);
        DUE.is("14: tree(5, 3, 12)", x.tree(5, 3, 12), 0);
    }

    private static void treeOfSome() {
        LastMap x = with("--d-", "abcd", "ab--", "a---", "abc-", "----");
        x.hand(1, 8);
        DUE.is("14: tree(62, 1, 0)", x.tree(62, 1, 0), 4);
        DUE.is("14: tree(62, 1, 1)", x.tree(62, 1, 1), 1);
        DUE.is("14: tree(62, 1, 11)", x.tree(62, 1, 11), LastMap.NONE);
        DUE.is("14: tree(62, 1, 12)", x.tree(62, 1, 12), 4);
        DUE.is("14: tree(62, 1, 13)", x.tree(62, 1, 13), 2);
        DUE.is("14: tree(62, 1, 14)", x.tree(62, 1, 14), 1);
        DUE.is("14: tree(62, 1, 15)", x.tree(62, 1, 15), 3);
    }

    private static void noTree() {
        LastMap x = with("ab", "cd");
        x.hand(2, 8);
        DUE.is("14: tree(3, 2, 0)", x.tree(3, 2, 0), LastMap.NONE);
        DUE.is("14: tree(3, 2, 1)", x.tree(3, 2, 1), LastMap.NONE);
        DUE.is("14: tree(3, 2, 10)", x.tree(3, 2, 10), LastMap.NONE);
        DUE.is("14: tree(3, 2, 11)", x.tree(3, 2, 11), LastMap.NONE);
        DUE.is("14: tree(2, 2, 0)", x.tree(2, 2, 0), 0);
        DUE.is("14: tree(2, 2, 1)", x.tree(2, 2, 1), 1);
        DUE.is("14: tree(2, 2, 11)", x.tree(2, 2, 11), LastMap.NONE);
    }

    /* All trees are as good here, 6 to the 5th of them; what is below in the first one would draw a map from itself. */
    private static void treeOfAlike() {
        LastMap x = with("ab", "ab", "ab", "ab", "ab", "ab");
        x.hand(0, 0);
        DUE.is("14: tree(63, 0, 0)", x.tree(63, 0, 0), 0);
        DUE.is("14: tree(63, 0, 1)", x.tree(63, 0, 1), 7776);
        int[] want = {1, 2, 3, 4, 5, LastMap.NONE};
        for (int map = 0; map < 6; map++) {
            DUE.is("14: tree(63, 0, 1" + map + ")", x.tree(63, 0, 10 + map), want[map]);
        }
    }

    private static void treeRefused() {
        LastMap x = with("ab", "cd");
        DUE.is("14: tree(0, 4, 2)", x.tree(0, 4, 2), LastMap.UNKNOWN);
        DUE.is("14: tree(3, -1, 0)", x.tree(3, -1, 0), LastMap.UNKNOWN);
        DUE.is("14: tree(0, 0, 0)", x.tree(0, 0, 0), LastMap.OUTSIDE);
        DUE.is("14: tree(64, 0, 0)", x.tree(64, 0, 0), LastMap.OUTSIDE);
        DUE.is("14: tree(-1, 0, 0)", x.tree(-1, 0, 0), LastMap.OUTSIDE);
        int[] not = {-1, 2, 9, 12, 15, 16, 42, Integer.MIN_VALUE, Integer.MAX_VALUE};
        for (int what : not) {
            DUE.is("14: tree(3, 0, " + what + ")", x.tree(3, 0, what), LastMap.OUTSIDE);
        }
        DUE.is("14: tree(7, 0, 2)", x.tree(7, 0, 2), LastMap.OUTSIDE);
        DUE.is("14: tree(7, 0, 12)", x.tree(7, 0, 12), LastMap.STATE);
        DUE.is("14: tree(32, 0, 0)", x.tree(32, 0, 0), LastMap.STATE);
    }

    private static void found(LastMap x, int set, int hand, int sum, String signs) {
        String call = "15: lost(" + set + ", " + hand + ", ";
        DUE.is(call + "-1)", x.lost(set, hand, -1), sum);
        for (int i = 0; i < signs.length(); i++) {
            DUE.is(call + i + ")", x.lost(set, hand, i), signs.charAt(i));
        }
        DUE.is(call + "n)", x.lost(set, hand, signs.length()), LastMap.NONE);
        DUE.is(call + "-2)", x.lost(set, hand, -2), LastMap.NONE);
    }

    private static void lost() {
        LastMap x = with("abc", "bac", "ab-");
        found(x, 1, 0, 0, "abc");
        found(x, 7, 0, 2, "abc");
        found(x, 4, 0, 0, "ab-");
        x.hand(1, 8);
        found(x, 5, 1, 1, "abc");
        found(x, 4, 1, 0, "ab-");
        found(with("aaa", "baa"), 3, 0, 1, "aaa");
        found(with("baa", "aba", "aab"), 7, 0, 2, "aba");
        DUE.is("15: lost(3, 1, -1)", x.lost(3, 1, -1), LastMap.NONE);
        DUE.is("15: lost(3, 1, 0)", x.lost(3, 1, 0), LastMap.NONE);
        LastMap y = with("-b", "a-");
        y.hand(1, 8);
        found(y, 3, 1, 2, "ab");
        y.hand(2, 1);
        found(y, 3, 2, 2, "--");
        LastMap z = with("dbcdda", "acbdda");
        z.hand(3, 4);
        DUE.is("15: lost(3, 3, -1)", z.lost(3, 3, -1), LastMap.NONE);
        LastMap w = with("ad", "bd", "cd");
        found(w, 7, 0, 2, "ad");
        Due.tell(w, 3, "dd");
        found(w, 15, 0, 3, "ad");
        w.hand(2, 4);
        found(w, 8, 2, 0, "dd");
    }

    private static void lostRefused() {
        LastMap x = with("ab", "cd");
        DUE.is("15: lost(0, 4, 0)", x.lost(0, 4, 0), LastMap.UNKNOWN);
        DUE.is("15: lost(0, -1, 0)", x.lost(0, -1, 0), LastMap.UNKNOWN);
        DUE.is("15: lost(0, 0, 0)", x.lost(0, 0, 0), LastMap.OUTSIDE);
        DUE.is("15: lost(64, 0, 0)", x.lost(64, 0, 0), LastMap.OUTSIDE);
        DUE.is("15: lost(-1, 0, 0)", x.lost(-1, 0, 0), LastMap.OUTSIDE);
        DUE.is("15: lost(7, 0, 0)", x.lost(7, 0, 0), LastMap.STATE);
    }

    private static void row(String map, String wish, int kinds, int read, int... slips) {
        LastMap x = Due.withSites(map.length());
        Due.tell(x, 2, map);
        x.hand(3, kinds);
        Due.write(x, wish);
        String call = "16: wished of " + map + ", " + wish + " with kinds " + kinds + " past " + read;
        DUE.is(call, x.wished(2, 3, read, -1), slips.length);
        for (int i = 0; i < slips.length; i++) {
            DUE.is(call + ", the " + i + ". slip", x.wished(2, 3, read, i), slips[i]);
        }
        DUE.is(call + ", one more", x.wished(2, 3, read, slips.length), LastMap.NONE);
        DUE.is(call + ", below -1", x.wished(2, 3, read, -2), LastMap.NONE);
        DUE.is("16: the pad stays", x.told(0), wish.length());
    }

    private static void noRow(String map, String wish, int kinds, int read) {
        LastMap x = Due.withSites(map.length());
        Due.tell(x, 2, map);
        x.hand(3, kinds);
        Due.write(x, wish);
        String call = "16: wished of " + map + ", " + wish + " with kinds " + kinds + " past " + read;
        DUE.is(call, x.wished(2, 3, read, -1), LastMap.NONE);
        DUE.is(call + ", slip 0", x.wished(2, 3, read, 0), LastMap.NONE);
    }

    private static void wished() {
        row("abcd", "????", 15, 0);
        row("abcd", "????", 15, 15);
        row("abcd", "abcd", 0, 15);
        row("abcd", "?-?a", 15, 0, 30, 310);
        row("abcd", "d???", 15, 0, 3);
        row("abcd", "d???", 2, 0, 120, 110, 100);
        row("abcd", "d???", 2, 4, 110, 120, 110, 100);
        row("abcd", "b???", 15, 0, 1);
        row("abcd", "b???", 14, 0, 100);
        row("abcd", "b???", 14, 2, 100, 200);
        row("ab-", "??a", 6, 3, 100, 210, 100);
        noRow("ab-", "??a", 12, 3);
        noRow("abcd", "?-?a", 15, 8);
        noRow("abcd", "----", 7, 0);
        noRow("abcd", "d???", 2, 8);
        noRow("abcd", "b???", 0, 0);
    }

    private static void wishedRefused() {
        LastMap x = with("ab", "cd");
        Due.write(x, "?");
        DUE.is("16: wished(6, 0, 4, 0)", x.wished(6, 0, 4, 0), LastMap.UNKNOWN);
        DUE.is("16: wished(-1, 0, 0, 0)", x.wished(-1, 0, 0, 0), LastMap.UNKNOWN);
        DUE.is("16: wished(0, 4, 0, 0)", x.wished(0, 4, 0, 0), LastMap.UNKNOWN);
        DUE.is("16: wished(2, 0, 4, 0)", x.wished(2, 0, 4, 0), LastMap.OUTSIDE);
        DUE.is("16: wished(2, 0, -1, 0)", x.wished(2, 0, -1, 0), LastMap.OUTSIDE);
        DUE.is("16: wished(2, 0, 3, 0)", x.wished(2, 0, 3, 0), LastMap.STATE);
        DUE.is("16: wished(0, 0, 3, 0)", x.wished(0, 0, 3, 0), LastMap.NO);
        x.say('?');
        DUE.is("16: wished(0, 0, 3, -1)", x.wished(0, 0, 3, -1), 0);
        x.say('?');
        DUE.is("16: wished(0, 0, 3, -1)", x.wished(0, 0, 3, -1), LastMap.NO);
    }

    private static void holds() {
        LastMap x = with("abcd-", "abdc-", "aacd-", "bacdd");
        DUE.is("17: holds(1, -1)", x.holds(1, -1), 31);
        DUE.is("17: holds(3, -1)", x.holds(3, -1), 19);
        DUE.is("17: holds(7, -1)", x.holds(7, -1), 17);
        DUE.is("17: holds(15, -1)", x.holds(15, -1), 0);
        DUE.is("17: holds(15, 0)", x.holds(15, 0), 'a');
        DUE.is("17: holds(15, 1)", x.holds(15, 1), 'a');
        DUE.is("17: holds(3, 1)", x.holds(3, 1), 'b');
        DUE.is("17: holds(3, 2)", x.holds(3, 2), 'c');
        DUE.is("17: holds(15, 4)", x.holds(15, 4), '-');
        DUE.is("17: holds(9, 4)", x.holds(9, 4), 'd');
        DUE.is("17: holds(8, 4)", x.holds(8, 4), 'd');
    }

    private static void holdsRefused() {
        LastMap x = with("ab", "cd");
        DUE.is("17: holds(0, 2)", x.holds(0, 2), LastMap.UNKNOWN);
        DUE.is("17: holds(0, -2)", x.holds(0, -2), LastMap.UNKNOWN);
        DUE.is("17: holds(0, -1)", x.holds(0, -1), LastMap.OUTSIDE);
        DUE.is("17: holds(64, 0)", x.holds(64, 0), LastMap.OUTSIDE);
        DUE.is("17: holds(-1, 0)", x.holds(-1, 0), LastMap.OUTSIDE);
        DUE.is("17: holds(7, 0)", x.holds(7, 0), LastMap.STATE);
        DUE.is("17: holds(4, -1)", x.holds(4, -1), LastMap.STATE);
    }
}
