/** Promises 9 to 13: judge, copy, far, who, between. */
public final class CopiesTest {
    private static final Due DUE = new Due();

    public static void main(String[] args) {
        judge();
        judgeRefused();
        copy();
        copyRefused();
        far();
        farByKinds();
        farOfOtherSites();
        farRefused();
        who();
        between();
        DUE.end();
    }

    private static void judged(String map, String slips, int want) {
        LastMap x = Due.withSites(map.length());
        Due.tell(x, 3, map);
        Due.write(x, slips);
        DUE.is("9: judge of " + map + " with '" + slips + "'", x.judge(3), want);
        DUE.is("9: the pad stays", x.told(0), slips.length());
        DUE.holds("9: the map stays", Due.read(x, 3).equals(map));
    }

    private static void judge() {
        judged("abc-", "", LastMap.NONE);
        judged("abc-", "c0a", 0);
        judged("abc-", "c0b", LastMap.NONE);
        judged("abc-", "c3a", LastMap.NONE);
        judged("abc-", "o3", 0);
        judged("abc-", "o2o2", 1);
        judged("abc-", "o2s2", 1);
        judged("abc-", "s2s2s2s2s2s2s2s2s2s2", LastMap.NONE);
        judged("aabb", "s0", 0);
        judged("aabb", "t0", 0);
        judged("aabb", "t1t2", LastMap.NONE);
        judged("aabb", "s1t0", LastMap.NONE);
        judged("aabb", "t1t2t2o0", 2);
        judged("aabb", "c0bc0bc0b", 1);
    }

    private static void judgeRefused() {
        LastMap x = Due.withSites(2);
        Due.write(x, "s1");
        DUE.is("9: judge(-1)", x.judge(-1), LastMap.UNKNOWN);
        DUE.is("9: judge(6)", x.judge(6), LastMap.UNKNOWN);
        DUE.is("9: judge(0), not told", x.judge(0), LastMap.STATE);
        Due.tell(x, 0, "ab");
        Due.write(x, "s1");
        DUE.is("9: judge(0) with a fault", x.judge(0), LastMap.NO);
        Due.write(x, "s");
        DUE.is("9: judge(0), more must come", x.judge(0), LastMap.NO);
    }

    private static void copied(String map, String slips, String want, int many) {
        LastMap x = Due.withSites(map.length());
        Due.tell(x, 0, map);
        Due.write(x, slips);
        DUE.is("10: copy of " + map + " with '" + slips + "'", x.copy(5, 0), many);
        DUE.holds("10: it is " + want + ", not " + Due.read(x, 5), Due.read(x, 5).equals(want));
        DUE.holds("10: the other one stays", Due.read(x, 0).equals(map));
        DUE.is("10: the pad is empty", x.told(0), 0);
        DUE.is("10: told(2)", x.told(2), 33);
        Due.write(x, slips);
        DUE.is("10: copy from itself", x.copy(0, 0), many);
        DUE.holds("10: it is the same", Due.read(x, 0).equals(want));
    }

    private static void copy() {
        copied("abcd-a", "", "abcd-a", 0);
        copied("abcd-a", "c4b", "abcdba", 1);
        copied("abcd-a", "s3", "abc-da", 1);
        copied("abcd-a", "t0", "aacd-a", 1);
        copied("abcd-a", "t4", "abcd--", 1);
        copied("abcd-a", "o0", "-bcd-a", 1);
        copied("abcd-a", "s0s1s2s3", "bcd-aa", 4);
        copied("abcd-a", "t0t1t2t3o0", "-aaaaa", 5);
        copied("abcd-a", "o0c0bo0c0bo0c0bo0c0bo0c0d", "dbcd-a", 10);
        copied("ab", "s0c0d", "da", 2);
    }

    private static void copyRefused() {
        LastMap x = Due.withSites(2);
        Due.write(x, "x");
        DUE.is("10: copy(-1, 0)", x.copy(-1, 0), LastMap.UNKNOWN);
        DUE.is("10: copy(0, 6)", x.copy(0, 6), LastMap.UNKNOWN);
        DUE.is("10: copy(6, 0)", x.copy(6, 0), LastMap.UNKNOWN);
        DUE.is("10: copy(0, 1), not told", x.copy(0, 1), LastMap.STATE);
        Due.tell(x, 1, "ab");
        Due.write(x, "s0s");
        DUE.is("10: copy(0, 1) with a fault", x.copy(0, 1), LastMap.NO);
        Due.write(x, "s0c0b");
        DUE.is("10: copy(0, 1) with one that is none", x.copy(0, 1), LastMap.NO);
        DUE.is("10: the pad stays", x.told(0), 5);
        DUE.is("10: nothing was drawn", x.told(2), 2);
        DUE.holds("10: map 1 stays", Due.read(x, 1).equals("ab"));
    }

    private static void row(String from, String to, int kinds, int... slips) {
        LastMap x = Due.withSites(from.length());
        Due.tell(x, 1, from);
        Due.tell(x, 4, to);
        x.hand(2, kinds);
        String call = "11: far of " + from + " and " + to + " with kinds " + kinds;
        DUE.is(call, x.far(1, 4, 2, -1), slips.length);
        for (int i = 0; i < slips.length; i++) {
            DUE.is(call + ", the " + i + ". slip", x.far(1, 4, 2, i), slips[i]);
        }
        DUE.is(call + ", one more", x.far(1, 4, 2, slips.length), LastMap.NONE);
        DUE.is(call + ", below -1", x.far(1, 4, 2, -2), LastMap.NONE);
    }

    private static void noRow(String from, String to, int kinds) {
        LastMap x = Due.withSites(from.length());
        Due.tell(x, 1, from);
        Due.tell(x, 4, to);
        x.hand(2, kinds);
        String call = "11: far of " + from + " and " + to + " with kinds " + kinds;
        DUE.is(call, x.far(1, 4, 2, -1), LastMap.NONE);
        DUE.is(call + ", slip 0", x.far(1, 4, 2, 0), LastMap.NONE);
        DUE.is("12: who of it", x.who(1, 4, 30) & 4, 0);
        DUE.is("13: between of it", x.between(1, 4, 2, 9), LastMap.NONE);
    }

    private static void far() {
        row("abc", "abc", 15);
        row("abc", "bac", 15, 100);
        row("abc", "abd", 15, 23);
        row("bbc", "abc", 15, 0);
        row("abc", "ab-", 15, 320);
        row("abc", "aac", 15, 10);
        row("abc", "bbb", 15, 1, 21);
        row("ab", "--", 15, 300, 200);
        row("abcd", "bcda", 15, 100, 110, 120);
        row("------", "dddddd", 15, 3, 13, 23, 33, 43, 53);
        row("abcdab", "aaaaaa", 15, 10, 20, 30, 50);
    }

    private static void farByKinds() {
        row("abcdab", "badcba", 2, 100, 120, 140);
        row("abcd--", "--dcba", 2, 100, 110, 100, 120, 110, 100, 130, 120, 110, 100, 140, 130, 120, 110);
        row("abcd", "aaaa", 4, 200, 210, 220);
        row("abcd", "----", 8, 300, 310, 320, 330);
        row("ab-", "cdd", 1, 2, 13, 23);
        row("ab", "bb", 6, 100, 200);
        row("abc", "ab-", 12, 320);
        noRow("ab", "ba", 1 << 3);
        noRow("ab", "a-", 7);
        noRow("ab", "ba", 0);
        noRow("ab", "bb", 4);
        noRow("aab", "abb", 2);
        noRow("a-", "-a", 1);
        row("ab", "ab", 0);
    }

    /* The same signs with an a more behind them are another map. */
    private static void farOfOtherSites() {
        LastMap x = new LastMap();
        for (int n = 2; n <= 6; n++) {
            x.sites(n);
            Due.tell(x, 0, "b".repeat(n));
            Due.tell(x, 1, "ca" + "a".repeat(n - 2));
            DUE.is("11: far(0, 1, 0, -1) with " + n + " sites", x.far(0, 1, 0, -1), n);
            DUE.is("11: far(0, 1, 0, n - 1)", x.far(0, 1, 0, n - 1), 10 * (n - 1));
        }
        for (int n = 6; n >= 2; n--) {
            x.sites(n);
            Due.tell(x, 0, "-".repeat(n));
            Due.tell(x, 1, "ca" + "a".repeat(n - 2));
            DUE.is("11: far(0, 1, 0, -1) with " + n + " sites", x.far(0, 1, 0, -1), n);
        }
    }

    private static void farRefused() {
        LastMap x = Due.withSites(2);
        Due.tell(x, 0, "ab");
        DUE.is("11: far(-1, 0, 0, -1)", x.far(-1, 0, 0, -1), LastMap.UNKNOWN);
        DUE.is("11: far(0, 6, 0, -1)", x.far(0, 6, 0, -1), LastMap.UNKNOWN);
        DUE.is("11: far(0, 1, 4, -1)", x.far(0, 1, 4, -1), LastMap.UNKNOWN);
        DUE.is("11: far(0, 1, -1, -1)", x.far(0, 1, -1, -1), LastMap.UNKNOWN);
        DUE.is("11: far(0, 1, 0, -1)", x.far(0, 1, 0, -1), LastMap.STATE);
        DUE.is("11: far(1, 0, 0, 0)", x.far(1, 0, 0, 0), LastMap.STATE);
        DUE.is("11: far(0, 0, 0, MAX)", x.far(0, 0, 0, Integer.MAX_VALUE), LastMap.NONE);
        DUE.is("11: far(0, 0, 0, MIN)", x.far(0, 0, 0, Integer.MIN_VALUE), LastMap.NONE);
    }

    private static void who() {
        LastMap x = Due.withSites(3);
        Due.tell(x, 0, "abc");
        Due.tell(x, 1, "bac");
        x.hand(1, 1);
        x.hand(2, 8);
        x.hand(3, 2);
        DUE.is("12: who(0, 1, 0)", x.who(0, 1, 0), 0);
        DUE.is("12: who(0, 1, 1)", x.who(0, 1, 1), 9);
        DUE.is("12: who(0, 1, 2)", x.who(0, 1, 2), 11);
        DUE.is("12: who(0, 1, 30)", x.who(0, 1, 30), 11);
        DUE.is("12: who(0, 0, 0)", x.who(0, 0, 0), 15);
        DUE.is("12: who(6, 0, 31)", x.who(6, 0, 31), LastMap.UNKNOWN);
        DUE.is("12: who(0, -1, 0)", x.who(0, -1, 0), LastMap.UNKNOWN);
        DUE.is("12: who(0, 2, 31)", x.who(0, 2, 31), LastMap.OUTSIDE);
        DUE.is("12: who(0, 2, -1)", x.who(0, 2, -1), LastMap.OUTSIDE);
        DUE.is("12: who(0, 2, 30)", x.who(0, 2, 30), LastMap.STATE);
        DUE.is("12: who(2, 0, 30)", x.who(2, 0, 30), LastMap.STATE);
    }

    private static void between() {
        LastMap x = new LastMap();
        Due.tell(x, 0, "------");
        Due.tell(x, 1, "dddddd");
        int[] want = {6, 3, 2, 2, 2, 1, 1, 1, 1};
        for (int e = 1; e <= 9; e++) {
            DUE.is("13: between(0, 1, 0, " + e + ")", x.between(0, 1, 0, e), want[e - 1]);
            DUE.is("13: between(0, 0, 0, " + e + ")", x.between(0, 0, 0, e), 0);
        }
        x.hand(1, 14);
        DUE.is("13: between(0, 1, 1, 9)", x.between(0, 1, 1, 9), LastMap.NONE);
        DUE.is("13: between(0, 0, 1, 9)", x.between(0, 0, 1, 9), 0);
        DUE.is("13: between(1, 0, 1, 5)", x.between(1, 0, 1, 5), 2);
        DUE.is("13: between(6, 0, 0, 0)", x.between(6, 0, 0, 0), LastMap.UNKNOWN);
        DUE.is("13: between(0, -1, 0, 0)", x.between(0, -1, 0, 0), LastMap.UNKNOWN);
        DUE.is("13: between(0, 2, 4, 0)", x.between(0, 2, 4, 0), LastMap.UNKNOWN);
        DUE.is("13: between(0, 2, 0, 0)", x.between(0, 2, 0, 0), LastMap.OUTSIDE);
        DUE.is("13: between(0, 2, 0, 10)", x.between(0, 2, 0, 10), LastMap.OUTSIDE);
        DUE.is("13: between(0, 2, 0, 9)", x.between(0, 2, 0, 9), LastMap.STATE);
        DUE.is("13: between(2, 0, 0, 9)", x.between(2, 0, 0, 9), LastMap.STATE);
    }
}
