/** The sentences of part 2 and of promises 9 to 13 that name an edge, one function for each, both sides of it. */
public final class EdgesOfCopiesTest {
    private static final Due DUE = new Due();

    public static void main(String[] args) {
        judgeNothing();
        judgeEachOfTen();
        judgeByThen();
        judgeKindsThatAreNone();
        judgeAllKinds();
        copyOfNothing();
        copyOfTen();
        copyOntoItself();
        copyWithOneThatIsNone();
        copyOntoUntold();
        copySites();
        farAlike();
        farNoKinds();
        farOfEachKind();
        farFirstRow();
        farByChangesOnly();
        farLongest();
        farIsOneWay();
        farOfSlipNumbers();
        whoAtK();
        whoAlike();
        betweenAtE();
        betweenAlike();
        betweenNone();
        DUE.end();
    }

    private static LastMap with(String... maps) {
        LastMap x = Due.withSites(maps[0].length());
        for (int map = 0; map < maps.length; map++) {
            Due.tell(x, map, maps[map]);
        }
        return x;
    }

    // ---- promise 9

    private static void judged(String map, String slips, int want) {
        LastMap x = with(map);
        Due.write(x, slips);
        DUE.is("9: judge of " + map + " by '" + slips + "'", x.judge(0), want);
        DUE.is("9: the PAD stays", x.wipe(), slips.length());
        DUE.same("9: the MAP stays", Due.read(x, 0), map);
    }

    /* "the first SLIP ... that is none; NONE": of no SLIPS none is none. */
    private static void judgeNothing() {
        judged("ab", "", LastMap.NONE);
        judged("------", "", LastMap.NONE);
    }

    /* "(from 0 on)": each of ten can be the first that is none. */
    private static void judgeEachOfTen() {
        for (int place = 0; place < 10; place++) {
            String none = place % 2 == 0 ? "c0a" : "c0b";
            judged("ab", "s0".repeat(place) + none + "s0".repeat(9 - place), place);
        }
        judged("ab", "s0".repeat(10), LastMap.NONE);
    }

    /* A SLIP is none by what the MAP is then, not by what it was at first. */
    private static void judgeByThen() {
        judged("ab", "c0bc0a", LastMap.NONE);
        judged("ab", "c0a", 0);
        judged("aa", "c0bs0", LastMap.NONE);
        judged("aa", "s0c0b", 0);
        judged("ab", "t0s0", 1);
        judged("ab", "c0bt0c1b", 1);
        judged("ab", "c0bc1bo0", 1);
        judged("-b", "o0", 0);
        judged("-b", "c0ao0", LastMap.NONE);
    }

    /* "A SLIP that leaves the MAP as it is is none", of each kind, at the first and at the last SITE. */
    private static void judgeKindsThatAreNone() {
        judged("aabb--", "c0a", 0);
        judged("aabb-d", "c5d", 0);
        judged("aabb--", "s0", 0);
        judged("aabb--", "s4", 0);
        judged("aabb--", "t0", 0);
        judged("aabb--", "t4", 0);
        judged("-abb--", "o0", 0);
        judged("aabb--", "o5", 0);
        judged("aabb--", "s1", LastMap.NONE);
        judged("aabb--", "t1", LastMap.NONE);
        judged("aabb--", "o3", LastMap.NONE);
        judged("aabb--", "c5a", LastMap.NONE);
    }

    /* HANDS are not asked: SLIPS on the PAD may be of any kind. */
    private static void judgeAllKinds() {
        LastMap x = with("abc");
        for (int hand = 0; hand < 4; hand++) {
            x.hand(hand, 0);
        }
        Due.write(x, "c0bs1t0o0");
        DUE.is("9: judge by kinds that no HAND makes", x.judge(0), LastMap.NONE);
        DUE.is("10: copy by kinds that no HAND makes", x.copy(1, 0), 4);
        DUE.same("10: MAP 1", Due.read(x, 1), "-bb");
    }

    // ---- promise 10

    /* With no SLIPS it is drawn as it is. */
    private static void copyOfNothing() {
        LastMap x = with("ab-");
        DUE.is("10: copy(5, 0) by nothing", x.copy(5, 0), 0);
        DUE.same("10: MAP 5", Due.read(x, 5), "ab-");
        DUE.is("10: copy(0, 0) by nothing", x.copy(0, 0), 0);
        DUE.same("10: MAP 0", Due.read(x, 0), "ab-");
    }

    /* "10 SLIPS at most"; "(it is empty then)". */
    private static void copyOfTen() {
        LastMap x = with("ab");
        Due.write(x, "s0".repeat(9));
        DUE.is("10: copy(1, 0) by nine", x.copy(1, 0), 9);
        DUE.same("10: MAP 1", Due.read(x, 1), "ba");
        Due.write(x, "s0".repeat(10));
        DUE.is("10: copy(1, 0) by ten", x.copy(1, 0), 10);
        DUE.same("10: MAP 1", Due.read(x, 1), "ab");
        DUE.is("10: told(0)", x.told(0), 0);
        Due.write(x, "s0".repeat(11));
        DUE.is("10: copy(2, 0) by eleven", x.copy(2, 0), LastMap.NO);
        DUE.is("10: the PAD stays", x.told(0), 22);
        DUE.is("10: MAPS", x.told(2), 3);
        Due.write(x, "c0cc0d".repeat(5));
        DUE.is("10: copy(0, 0) by ten of three signs", x.copy(0, 0), 10);
        DUE.same("10: MAP 0", Due.read(x, 0), "db");
    }

    /* "from another one (or itself)". */
    private static void copyOntoItself() {
        for (int map = 0; map < 6; map++) {
            LastMap x = new LastMap();
            Due.tell(x, map, "abcd-a");
            Due.write(x, "s0s1o5");
            DUE.is("10: copy(" + map + ", itself)", x.copy(map, map), 3);
            DUE.same("10: MAP " + map, Due.read(x, map), "bcad--");
            DUE.is("10: MAPS", x.told(2), 1 << map);
        }
    }

    /* "NO: there is a FAULT, or one that is none": also the last one, and nothing is drawn of those before. */
    private static void copyWithOneThatIsNone() {
        for (String slips : new String[] {"c0a", "s0c1a", "s0".repeat(9) + "c0b", "c0bt0", "o1o1"}) {
            LastMap x = with("ab", "cd");
            Due.write(x, slips);
            DUE.is("10: copy(1, 0) by " + slips, x.copy(1, 0), LastMap.NO);
            DUE.same("10: MAP 1 stays", Due.read(x, 1), "cd");
            DUE.is("10: copy(0, 0) by " + slips, x.copy(0, 0), LastMap.NO);
            DUE.same("10: MAP 0 stays", Due.read(x, 0), "ab");
            DUE.is("10: the PAD stays", x.wipe(), slips.length());
        }
    }

    /* "STATE: that one was not told": the one that is drawn need not have been. */
    private static void copyOntoUntold() {
        LastMap x = with("ab");
        Due.write(x, "s0");
        DUE.is("10: copy(0, 1)", x.copy(0, 1), LastMap.STATE);
        DUE.is("10: copy(1, 1)", x.copy(1, 1), LastMap.STATE);
        DUE.is("10: copy(5, 0)", x.copy(5, 0), 1);
        DUE.is("10: MAPS", x.told(2), 33);
        x.say('o');
        x.say('0');
        DUE.is("10: copy(0, 5)", x.copy(0, 5), 1);
        DUE.same("10: MAP 0", Due.read(x, 0), "-a");
        DUE.same("10: MAP 5", Due.read(x, 5), "ba");
    }

    /* Each kind at its first and its last SITE, with every n. */
    private static void copySites() {
        for (int n = 2; n <= 6; n++) {
            String map = "abcd-b".substring(0, n);
            int last = n - 1;
            copied(map, "c0d", "d" + map.substring(1));
            copied(map, "c" + last + "a", map.substring(0, last) + "a");
            copied(map, "s0", "ba" + map.substring(2));
            copied(map, "s" + (n - 2), map.substring(0, n - 2) + map.charAt(last) + map.charAt(n - 2));
            copied(map, "t0", "aa" + map.substring(2));
            copied(map, "t" + (n - 2), map.substring(0, last) + map.charAt(n - 2));
            copied(map, "o0", "-" + map.substring(1));
            if (n != 5) {
                copied(map, "o" + last, map.substring(0, last) + "-");
            }
        }
    }

    private static void copied(String map, String slip, String want) {
        LastMap x = with(map);
        Due.write(x, slip);
        DUE.is("10: copy of " + map + " by " + slip, x.copy(1, 0), 1);
        DUE.same("10: what comes of " + map + " by " + slip, Due.read(x, 1), want);
    }

    // ---- promise 11

    private static void row(String from, String to, int kinds, int... slips) {
        LastMap x = with(from, to);
        x.hand(3, kinds);
        String call = "11: far of " + from + " and " + to + " by kinds " + kinds;
        DUE.is(call, x.far(0, 1, 3, -1), slips.length);
        for (int i = 0; i < slips.length; i++) {
            DUE.is(call + ", SLIP " + i, x.far(0, 1, 3, i), slips[i]);
        }
        for (int i : new int[] {slips.length, slips.length + 1, -2, 127, 128, Integer.MIN_VALUE, Integer.MAX_VALUE}) {
            DUE.is(call + ", SLIP " + i, x.far(0, 1, 3, i), LastMap.NONE);
        }
    }

    private static void noRow(String from, String to, int kinds) {
        LastMap x = with(from, to);
        x.hand(3, kinds);
        String call = "11: far of " + from + " and " + to + " by kinds " + kinds;
        for (int i : new int[] {-1, 0, 1, -2, Integer.MIN_VALUE, Integer.MAX_VALUE}) {
            DUE.is(call + ", " + i, x.far(0, 1, 3, i), LastMap.NONE);
        }
    }

    /* FAR of MAPS that are alike is 0, by every HAND, and no SLIP is the 0th. */
    private static void farAlike() {
        for (int kinds = 0; kinds <= 15; kinds++) {
            row("ab", "ab", kinds);
            row("abcd-a", "abcd-a", kinds);
        }
        LastMap x = with("ab");
        DUE.is("11: far(0, 0, 0, -1)", x.far(0, 0, 0, -1), 0);
        DUE.is("11: far(0, 0, 0, 0)", x.far(0, 0, 0, 0), LastMap.NONE);
    }

    /* A HAND with no kinds makes no SLIPS. */
    private static void farNoKinds() {
        noRow("ab", "aa", 0);
        noRow("ab", "-b", 0);
        noRow("abcdab", "abcdaa", 0);
    }

    /* "bits: 1 c, 2 s, 4 t, 8 o": what each kind makes, and what the others can make instead. */
    private static void farOfEachKind() {
        for (int kinds = 0; kinds <= 15; kinds++) {
            boolean c = (kinds & 1) != 0;
            boolean s = (kinds & 2) != 0;
            boolean t = (kinds & 4) != 0;
            boolean o = (kinds & 8) != 0;
            rowOrNone("aa", "ca", kinds, c ? new int[] {2} : null);
            rowOrNone("a-", "-a", kinds, s ? new int[] {100} : !o ? null
                : c ? new int[] {10, 300} : t ? new int[] {200, 300} : null);
            rowOrNone("ba", "bb", kinds, c ? new int[] {11} : t ? new int[] {200} : null);
            rowOrNone("ab", "a-", kinds, o ? new int[] {310} : null);
        }
    }

    private static void rowOrNone(String from, String to, int kinds, int[] slips) {
        if (slips == null) {
            noRow(from, to, kinds);
        } else {
            row(from, to, kinds, slips);
        }
    }

    /* "the first such row by the order of SLIPS": c by SITES, then letters; s by SITES; t by SITES; o by SITES. */
    private static void farFirstRow() {
        row("bb", "ad", 15, 0, 13);
        row("ab", "bc", 15, 1, 12);
        row("ab", "bc", 3, 1, 12);
        row("ab", "aa", 15, 10);
        row("abc", "bbb", 6, 100, 200, 210);
        row("-b", "--", 15, 200);
        row("-b", "--", 12, 200);
        row("ab-", "--b", 15, 110, 300);
        row("abcd", "badc", 15, 100, 120);
        row("abbb", "aaaa", 4, 200, 210, 220);
        row("abcdab", "------", 8, 300, 310, 320, 330, 340, 350);
        row("abcdab", "------", 15, 300, 200, 210, 220, 230, 240);
        row("------", "abcdab", 15, 0, 11, 22, 33, 40, 51);
        row("------", "abcdab", 1, 0, 11, 22, 33, 40, 51);
    }

    /* Only the next one is changed about with a SITE: the first has none before it, the last none behind it. */
    private static void farByChangesOnly() {
        noRow("-b", "ab", 2);
        noRow("-b", "ab", 6);
        noRow("ab", "ac", 2);
        noRow("abcdab", "-bcdab", 2);
        noRow("-bcdab", "abcdab", 2);
        row("-bcdab", "b-cdba", 2, 100, 140);
        row("abcdab", "bbcdaa", 2, 100, 110, 120, 140, 130, 120, 110);
    }

    /* Many changes about: more than 9 SLIPS are told as well. */
    private static void farLongest() {
        LastMap x = with("abcd--", "--dcba");
        x.hand(0, 2);
        DUE.is("11: far by changes alone", x.far(0, 1, 0, -1), 14);
        int[] want = {100, 110, 100, 120, 110, 100, 130, 120, 110, 100, 140, 130, 120, 110};
        for (int i = 0; i < want.length; i++) {
            DUE.is("11: SLIP " + i, x.far(0, 1, 0, i), want[i]);
        }
        DUE.is("11: SLIP 14", x.far(0, 1, 0, 14), LastMap.NONE);
    }

    /* From one to the other is not from the other to the one. */
    private static void farIsOneWay() {
        row("abcdbb", "aaaaaa", 4, 200, 210, 220, 230, 240);
        noRow("aaaaaa", "abcdbb", 4);
        row("ab", "--", 8, 300, 310);
        noRow("--", "ab", 8);
        row("--", "ab", 1, 0, 11);
        noRow("ab", "--", 1);
    }

    /* "100 times its kind (0 to 3), 10 times its SITE, and the letter (0 to 3; 0 but for c)". */
    private static void farOfSlipNumbers() {
        for (int n = 2; n <= 6; n++) {
            int last = n - 1;
            for (int letter = 0; letter < 4; letter++) {
                String to = "-".repeat(last) + (char) ('a' + letter);
                row("-".repeat(n), to, 15, 10 * last + letter);
                row("-".repeat(n), (char) ('a' + letter) + "-".repeat(last), 15, letter);
            }
            row("b".repeat(last) + "-", "b".repeat(n - 2) + "-b", 15, 100 + 10 * (n - 2));
            row("-".repeat(last) + "b", "-".repeat(n), 15, 200 + 10 * (n - 2));
            row("b".repeat(n), "b".repeat(last) + "-", 15, 300 + 10 * last);
            row("b".repeat(n), "-" + "b".repeat(last), 15, 300);
        }
    }

    // ---- promise 12

    /* "HANDS by whom it is no more than k", "k 0 to 30". */
    private static void whoAtK() {
        LastMap x = with("abcd--", "--dcba");
        x.hand(0, 2);
        x.hand(1, 9);
        x.hand(2, 1);
        x.hand(3, 0);
        DUE.is("11: far of HAND 0", x.far(0, 1, 0, -1), 14);
        DUE.is("11: far of HAND 1", x.far(0, 1, 1, -1), 6);
        int[] bits = new int[31];
        for (int k = 0; k <= 30; k++) {
            bits[k] = (k >= 14 ? 1 : 0) + (k >= 6 ? 2 : 0);
            DUE.is("12: who(0, 1, " + k + ")", x.who(0, 1, k), bits[k]);
        }
        DUE.is("12: who(0, 1, 31)", x.who(0, 1, 31), LastMap.OUTSIDE);
        DUE.is("12: who(0, 1, -1)", x.who(0, 1, -1), LastMap.OUTSIDE);
    }

    /* MAPS that are alike are 0 far, so by all HANDS, also those that make no SLIPS. */
    private static void whoAlike() {
        LastMap x = with("ab", "ab", "ba");
        for (int hand = 0; hand < 4; hand++) {
            x.hand(hand, 0);
        }
        DUE.is("12: who(0, 1, 0)", x.who(0, 1, 0), 15);
        DUE.is("12: who(0, 0, 0)", x.who(0, 0, 0), 15);
        DUE.is("12: who(0, 2, 30)", x.who(0, 2, 30), 0);
        x.hand(2, 2);
        DUE.is("12: who(0, 2, 0)", x.who(0, 2, 0), 0);
        DUE.is("12: who(0, 2, 1)", x.who(0, 2, 1), 4);
    }

    // ---- promise 13

    /* "by copies with no more than e SLIPS (1 to 9) each: the fewest copies". */
    private static void betweenAtE() {
        LastMap x = with("abcd--", "--dcba", "abcd-a");
        x.hand(0, 2);
        int[] want = {14, 7, 5, 4, 3, 3, 2, 2, 2};
        for (int e = 1; e <= 9; e++) {
            DUE.is("13: between(0, 1, 0, " + e + "), FAR is 14", x.between(0, 1, 0, e), want[e - 1]);
            DUE.is("13: between(0, 2, 1, " + e + "), FAR is 1", x.between(0, 2, 1, e), 1);
        }
        DUE.is("13: between(0, 1, 0, 0)", x.between(0, 1, 0, 0), LastMap.OUTSIDE);
        DUE.is("13: between(0, 1, 0, 10)", x.between(0, 1, 0, 10), LastMap.OUTSIDE);
        LastMap y = with("aaaa--", "dddd--");
        DUE.is("13: FAR is 4, e is 3", y.between(0, 1, 0, 3), 2);
        DUE.is("13: FAR is 4, e is 4", y.between(0, 1, 0, 4), 1);
        DUE.is("13: FAR is 4, e is 5", y.between(0, 1, 0, 5), 1);
    }

    /* "(0: they are alike)". */
    private static void betweenAlike() {
        LastMap x = with("ab", "ab");
        x.hand(3, 0);
        for (int e = 1; e <= 9; e++) {
            DUE.is("13: between(0, 1, 3, " + e + ")", x.between(0, 1, 3, e), 0);
            DUE.is("13: between(1, 1, 0, " + e + ")", x.between(1, 1, 0, e), 0);
        }
    }

    /* "BETWEEN; NONE". */
    private static void betweenNone() {
        LastMap x = with("ab", "cd");
        x.hand(3, 14);
        for (int e = 1; e <= 9; e++) {
            DUE.is("13: between(0, 1, 3, " + e + ")", x.between(0, 1, 3, e), LastMap.NONE);
        }
    }
}
