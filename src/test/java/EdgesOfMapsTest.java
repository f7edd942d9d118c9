/** The sentences of part 1 and of promises 1 to 8 that name an edge, one function for each, both sides of it. */
public final class EdgesOfMapsTest {
    private static final Due DUE = new Due();
    private static final String SIGNS = "abcd-";

    public static void main(String[] args) {
        newObject();
        objectsApart();
        lastCall();
        sitesFromTo();
        sitesBack();
        sitesOverMuch();
        sayCodes();
        sayFull();
        sayAgain();
        wipe();
        faultOfNothing();
        faultOfMapLengths();
        faultOfMapSigns();
        faultOfWishSigns();
        faultOfKindSigns();
        faultOfSiteSigns();
        faultOfLetterSigns();
        faultMoreMustCome();
        faultOfTenSlips();
        faultOfFullPad();
        faultFirst();
        faultOfOtherSites();
        mapAllSigns();
        mapEmptiesPad();
        mapOfEach();
        atEdges();
        handEdges();
        handsApart();
        DUE.end();
    }

    // ---- promise 1

    /* "Six SITES, no MAP was told"; "6 at first", "none at first", "15 at first", "1 at first", "as n times a". */
    private static void newObject() {
        LastMap x = new LastMap();
        DUE.is("1: SITES", x.told(1), 6);
        DUE.is("1: signs", x.told(0), 0);
        DUE.is("1: MAPS", x.told(2), 0);
        DUE.is("1: SPADES", x.told(3), 1);
        for (int hand = 0; hand < 4; hand++) {
            DUE.is("1: kinds of HAND " + hand, x.told(10 + hand), 15);
        }
        for (int map = 0; map < 6; map++) {
            for (int site = 0; site < 6; site++) {
                DUE.is("1: at(" + map + ", " + site + ")", x.at(map, site), LastMap.STATE);
            }
        }
        DUE.is("1: at(0, 6)", x.at(0, 6), LastMap.UNKNOWN);
        DUE.same("1: THE LAND", Due.readLand(x), "aaaaaa");
        DUE.is("1: land(6)", x.land(6), LastMap.UNKNOWN);
        DUE.is("1: restore(0)", x.restore(0), LastMap.STATE);
        DUE.is("1: restore(1)", x.restore(1), LastMap.STATE);
        DUE.is("1: wipe()", x.wipe(), 0);
        DUE.is("1: sites(6)", x.sites(6), 6);
        DUE.is("1: spades(1)", x.spades(1), 1);
        DUE.is("1: hand(0, 15)", x.hand(0, 15), 15);
    }

    /* What one object is told is nothing to another one. */
    private static void objectsApart() {
        LastMap x = Due.withSites(3);
        LastMap y = new LastMap();
        Due.tell(x, 0, "bcd");
        x.hand(1, 3);
        x.spades(4);
        x.follow(0, 1);
        x.image(0);
        Due.write(x, "ab");
        DUE.same("1: another object is as a new one", Witness.of(y), Witness.of(new LastMap()));
        DUE.same("1: MAP 0 of the first", Due.read(x, 0), "bcd");
    }

    /* "An object is used for at most 512 calls": the 512th is answered as the first. */
    private static void lastCall() {
        LastMap x = new LastMap();
        int calls = 0;
        for (int i = 0; i < 6; i++) {
            x.say("dcba-a".charAt(i));
            calls++;
        }
        x.map(2);
        calls++;
        for (int i = 0; calls < 509; i++, calls++) {
            DUE.is("1: call " + calls, i % 2 == 0 ? x.say('c') : x.wipe(), 1);
        }
        x.wipe();
        x.copy(4, 2);
        calls += 2;
        DUE.is("1: calls before the last", calls, 511);
        DUE.is("1: the 512th call", x.at(4, 4), '-');
    }

    // ---- promise 2

    /* "n 2 to 6"; "How many SITES there are: which it was. All MAPS are gone, THE LAND is n times a." */
    private static void sitesFromTo() {
        for (int n = 2; n <= 6; n++) {
            for (int next = 2; next <= 6; next++) {
                LastMap x = Due.withSites(n);
                Due.tell(x, 0, "b".repeat(n));
                Due.tell(x, 5, "-".repeat(n));
                x.spades(6);
                x.follow(5, 1);
                String call = "2: " + n + " SITES, then sites(" + next + ")";
                DUE.is(call, x.sites(next), n);
                DUE.is(call + ", SITES", x.told(1), next);
                DUE.is(call + ", MAPS", x.told(2), 0);
                DUE.is(call + ", at(0, last)", x.at(0, next - 1), LastMap.STATE);
                DUE.is(call + ", at(5, 0)", x.at(5, 0), LastMap.STATE);
                DUE.is(call + ", at(5, behind the last)", x.at(5, next), LastMap.UNKNOWN);
                DUE.same(call + ", THE LAND", Due.readLand(x), "a".repeat(next));
                DUE.is(call + ", land(behind the last)", x.land(next), LastMap.UNKNOWN);
                DUE.is(call + ", once more", x.sites(next), next);
            }
        }
    }

    /* What is gone does not come back with the same n. */
    private static void sitesBack() {
        LastMap x = new LastMap();
        Due.tell(x, 1, "dddddd");
        x.spades(6);
        x.follow(1, 1);
        x.sites(2);
        x.sites(6);
        DUE.is("2: MAPS", x.told(2), 0);
        DUE.is("2: years(1)", x.years(1), LastMap.STATE);
        DUE.same("2: THE LAND", Due.readLand(x), "aaaaaa");
        DUE.is("2: far(1, 1, 0, -1)", x.far(1, 1, 0, -1), LastMap.STATE);
    }

    /* The other things are no MAPS and no LAND: they stay. */
    private static void sitesOverMuch() {
        LastMap x = new LastMap();
        Due.tell(x, 0, "abcdab");
        x.image(1);
        x.hand(3, 0);
        x.spades(6);
        Due.write(x, "ab");
        x.sites(2);
        DUE.is("2: the PAD", x.told(0), 2);
        DUE.is("2: SPADES", x.told(3), 6);
        DUE.is("2: kinds", x.told(13), 0);
        DUE.is("2: map(4) of the PAD", x.map(4), 1);
        DUE.same("2: MAP 4", Due.read(x, 4), "ab");
        DUE.is("2: restore(1)", x.restore(1), 1);
        DUE.same("2: MAP 0 of the IMAGE", Due.read(x, 0), "abcdab");
    }

    // ---- promises 3 and 4

    /* "codes 33 to 126". */
    private static void sayCodes() {
        LastMap x = new LastMap();
        for (int sign = -5; sign <= 300; sign++) {
            boolean isSign = sign >= 33 && sign <= 126;
            DUE.is("3: say(" + sign + ")", x.say(sign), isSign ? 1 : LastMap.OUTSIDE);
            DUE.is("4: wipe() behind it", x.wipe(), isSign ? 1 : 0);
        }
    }

    /* "a PAD of up to 40 signs"; "A sign more: how many. OUTSIDE; FULL." */
    private static void sayFull() {
        LastMap x = new LastMap();
        for (int i = 1; i <= 40; i++) {
            DUE.is("3: sign " + i, x.say(i % 2 == 1 ? 's' : '0'), i);
            DUE.is("25: told(0)", x.told(0), i);
        }
        for (int i = 0; i < 3; i++) {
            DUE.is("3: sign 41", x.say('a'), LastMap.FULL);
            DUE.is("3: sign 41, and none", x.say(32), LastMap.OUTSIDE);
            DUE.is("25: told(0)", x.told(0), 40);
        }
        DUE.is("5: fault(1), as before", x.fault(1), 20);
    }

    /* A PAD that was full takes signs again, and none of the old ones. */
    private static void sayAgain() {
        LastMap x = Due.withSites(2);
        Due.write(x, "d".repeat(40));
        DUE.is("4: wipe()", x.wipe(), 40);
        DUE.is("3: say('b')", x.say('b'), 1);
        DUE.is("5: fault(0)", x.fault(0), 1);
        DUE.is("3: say('c')", x.say('c'), 2);
        DUE.is("6: map(0)", x.map(0), 1);
        DUE.same("6: MAP 0", Due.read(x, 0), "bc");
    }

    /* "Signs go: how many there were." */
    private static void wipe() {
        for (int length = 0; length <= 40; length++) {
            LastMap x = new LastMap();
            Due.write(x, "a".repeat(length));
            DUE.is("4: wipe() of " + length, x.wipe(), length);
            DUE.is("4: told(0)", x.told(0), 0);
            DUE.is("4: wipe() of nothing", x.wipe(), 0);
            DUE.is("4: fault(0) of nothing", x.fault(0), 0);
        }
    }

    // ---- promise 5

    private static void fault(int n, int how, String text, int want) {
        LastMap x = Due.withSites(n);
        Due.write(x, text);
        DUE.is("5: fault(" + how + ") of '" + text + "' with " + n + " SITES", x.fault(how), want);
        DUE.is("5: the PAD stays", x.wipe(), text.length());
    }

    /* "or the number of signs, if more must come (no SLIPS are none)". */
    private static void faultOfNothing() {
        for (int n = 2; n <= 6; n++) {
            fault(n, 0, "", 0);
            fault(n, 1, "", LastMap.NONE);
            fault(n, 2, "", 0);
        }
    }

    /* "n of these signs". */
    private static void faultOfMapLengths() {
        for (int n = 2; n <= 6; n++) {
            for (int length = 0; length <= 9; length++) {
                int want = length < n ? length : length == n ? LastMap.NONE : n;
                for (int i = 0; i < 5; i++) {
                    fault(n, 0, SIGNS.substring(i, i + 1).repeat(length), want);
                    fault(n, 2, SIGNS.substring(i, i + 1).repeat(length), want);
                }
                fault(n, 2, "?".repeat(length), want);
            }
        }
    }

    private static String text(int code) {
        return String.valueOf((char) code);
    }

    /* "A MAP has at each SITE a, b, c, d or -": at the first and at the last SITE. */
    private static void faultOfMapSigns() {
        for (int code = 33; code <= 126; code++) {
            boolean stands = SIGNS.indexOf(code) >= 0;
            fault(4, 0, text(code) + "ab-", stands ? LastMap.NONE : 0);
            fault(4, 0, "ab-" + text(code), stands ? LastMap.NONE : 3);
            fault(4, 0, "ab-d" + text(code), 4);
        }
    }

    /* "A WISH as a text: n signs a to d, -, or ?". */
    private static void faultOfWishSigns() {
        for (int code = 33; code <= 126; code++) {
            boolean stands = "abcd-?".indexOf(code) >= 0;
            fault(3, 2, text(code) + "?-", stands ? LastMap.NONE : 0);
            fault(3, 2, "?-" + text(code), stands ? LastMap.NONE : 2);
            fault(3, 2, "?-d" + text(code), 3);
        }
    }

    /* c, s, t or o begin a SLIP, and nothing else, also behind a whole one. */
    private static void faultOfKindSigns() {
        for (int code = 33; code <= 126; code++) {
            boolean begins = "csto".indexOf(code) >= 0;
            fault(6, 1, text(code), begins ? 1 : 0);
            fault(6, 1, "o5" + text(code), begins ? 3 : 2);
            fault(6, 1, "c5d" + text(code), begins ? 4 : 3);
        }
    }

    /* "c, a SITE (a digit)"; "s and a SITE below n less 1"; "t and such a SITE"; "o and a SITE". */
    private static void faultOfSiteSigns() {
        for (int n = 2; n <= 6; n++) {
            for (int code = 33; code <= 126; code++) {
                boolean isSite = code >= '0' && code < '0' + n;
                boolean hasNext = code >= '0' && code < '0' + n - 1;
                fault(n, 1, "c" + text(code) + "a", isSite ? LastMap.NONE : 1);
                fault(n, 1, "s" + text(code), hasNext ? LastMap.NONE : 1);
                fault(n, 1, "t" + text(code), hasNext ? LastMap.NONE : 1);
                fault(n, 1, "o" + text(code), isSite ? LastMap.NONE : 1);
            }
        }
    }

    /* "a to d (that SITE is that then)": no - and no ?. */
    private static void faultOfLetterSigns() {
        for (int code = 33; code <= 126; code++) {
            fault(6, 1, "c5" + text(code), code >= 'a' && code <= 'd' ? LastMap.NONE : 2);
            fault(2, 1, "t0c1" + text(code), code >= 'a' && code <= 'd' ? LastMap.NONE : 4);
        }
    }

    /* "the number of signs, if more must come": behind a kind, and behind the SITE of c. */
    private static void faultMoreMustCome() {
        for (String kind : new String[] {"c", "s", "t", "o"}) {
            fault(2, 1, kind, 1);
            fault(2, 1, "s0" + kind, 3);
            fault(2, 1, "c0a".repeat(9) + kind, 28);
        }
        fault(2, 1, "c1", 2);
        fault(2, 1, "s0c1", 4);
        fault(2, 1, "c0a".repeat(9) + "c1", 29);
        fault(2, 1, "c0a".repeat(9) + "c1d", LastMap.NONE);
    }

    /* "10 SLIPS at most". */
    private static void faultOfTenSlips() {
        for (String slip : new String[] {"c0b", "s0", "t0", "o1"}) {
            fault(2, 1, slip.repeat(9), LastMap.NONE);
            fault(2, 1, slip.repeat(10), LastMap.NONE);
            for (String more : new String[] {"c0b", "s0", "t0", "o1", "c", "s", "t", "o", "x", "0"}) {
                fault(2, 1, slip.repeat(10) + more, 10 * slip.length());
            }
        }
    }

    /* A full PAD is no MAP, no WISH and no SLIPS, for ten of them have 30 signs at most. */
    private static void faultOfFullPad() {
        fault(6, 0, "a".repeat(40), 6);
        fault(2, 0, "a".repeat(40), 2);
        fault(6, 2, "?".repeat(40), 6);
        fault(2, 2, "?".repeat(40), 2);
        fault(6, 1, "c0a".repeat(13) + "c", 30);
        fault(6, 1, "s0".repeat(20), 20);
    }

    /* "the first sign that can not stand there". */
    private static void faultFirst() {
        fault(3, 0, "axyz", 1);
        fault(3, 2, "!?!?!", 0);
        fault(3, 1, "c9zc9z", 1);
        fault(3, 1, "c0zx", 2);
        fault(3, 1, "s0s2s2", 3);
        fault(3, 1, "s2" + "s0".repeat(19), 1);
        fault(3, 1, "s0".repeat(10) + "s9", 20);
    }

    /* What can stand there is asked of the SITES that there are now. */
    private static void faultOfOtherSites() {
        LastMap x = new LastMap();
        Due.write(x, "s4");
        DUE.is("5: fault(1) with 6 SITES", x.fault(1), LastMap.NONE);
        x.sites(5);
        DUE.is("5: fault(1) with 5 SITES", x.fault(1), 1);
        Due.write(x, "abcda");
        DUE.is("5: fault(0) with 5 SITES", x.fault(0), LastMap.NONE);
        x.sites(4);
        DUE.is("5: fault(0) with 4 SITES", x.fault(0), 4);
        x.sites(6);
        DUE.is("5: fault(2) with 6 SITES", x.fault(2), 5);
    }

    // ---- promises 6 and 7

    /* Each sign at each SITE, with every n. */
    private static void mapAllSigns() {
        for (int n = 2; n <= 6; n++) {
            LastMap x = Due.withSites(n);
            for (int turn = 0; turn < 5; turn++) {
                String text = (SIGNS + SIGNS + SIGNS).substring(turn, turn + n);
                DUE.is("6: map(" + turn + ") of " + text, Due.tell(x, turn, text), 1);
                DUE.same("7: MAP " + turn, Due.read(x, turn), text);
            }
            DUE.is("25: MAPS", x.told(2), 31);
        }
    }

    /* "The PAD becomes a MAP (it is empty then): 1"; "NO: there is a FAULT". */
    private static void mapEmptiesPad() {
        LastMap x = Due.withSites(2);
        DUE.is("6: map(0) of nothing", x.map(0), LastMap.NO);
        x.say('a');
        DUE.is("6: map(0), one too few", x.map(0), LastMap.NO);
        x.say('-');
        DUE.is("6: map(0)", x.map(0), 1);
        DUE.is("6: told(0)", x.told(0), 0);
        DUE.is("6: map(0) of nothing again", x.map(0), LastMap.NO);
        DUE.is("6: wipe()", x.wipe(), 0);
        Due.write(x, "bcd");
        DUE.is("6: map(0), one too many", x.map(0), LastMap.NO);
        DUE.same("6: MAP 0 stays", Due.read(x, 0), "a-");
        DUE.is("6: the PAD stays", x.wipe(), 3);
    }

    /* "UNKNOWN: 0 to 5". */
    private static void mapOfEach() {
        LastMap x = Due.withSites(2);
        int bits = 0;
        for (int map = -2; map <= 8; map++) {
            boolean isMap = map >= 0 && map <= 5;
            DUE.is("6: map(" + map + ")", Due.tell(x, map, "d-"), isMap ? 1 : LastMap.UNKNOWN);
            bits |= isMap ? 1 << map : 0;
            DUE.is("25: told(2) behind map(" + map + ")", x.told(2), bits);
        }
        DUE.is("6: map(0) once more", Due.tell(x, 0, "ca"), 1);
        DUE.same("6: MAP 0", Due.read(x, 0), "ca");
        DUE.same("6: MAP 1", Due.read(x, 1), "d-");
        DUE.is("25: told(2), the same", x.told(2), 63);
    }

    /* "The sign of a MAP at a SITE (its code). UNKNOWN; STATE: it was not told." */
    private static void atEdges() {
        for (int n = 2; n <= 6; n++) {
            LastMap x = Due.withSites(n);
            Due.tell(x, 5, "b" + "a".repeat(n - 2) + "-");
            DUE.is("7: at(5, 0)", x.at(5, 0), 98);
            DUE.is("7: at(5, n less 1)", x.at(5, n - 1), 45);
            DUE.is("7: at(5, n)", x.at(5, n), LastMap.UNKNOWN);
            DUE.is("7: at(5, -1)", x.at(5, -1), LastMap.UNKNOWN);
            DUE.is("7: at(4, n less 1)", x.at(4, n - 1), LastMap.STATE);
            DUE.is("7: at(4, n)", x.at(4, n), LastMap.UNKNOWN);
            DUE.is("7: at(6, 0)", x.at(6, 0), LastMap.UNKNOWN);
        }
    }

    // ---- promise 8

    /* "HANDS 0 to 3"; "Kinds of a HAND: which they were"; "OUTSIDE: 0 to 15". */
    private static void handEdges() {
        LastMap x = new LastMap();
        for (int hand = -2; hand <= 5; hand++) {
            int before = 15;
            for (int kinds = -2; kinds <= 17; kinds++) {
                boolean isHand = hand >= 0 && hand <= 3;
                boolean areKinds = kinds >= 0 && kinds <= 15;
                int want = !isHand ? LastMap.UNKNOWN : areKinds ? before : LastMap.OUTSIDE;
                DUE.is("8: hand(" + hand + ", " + kinds + ")", x.hand(hand, kinds), want);
                before = areKinds ? kinds : before;
            }
        }
    }

    private static void handsApart() {
        LastMap x = new LastMap();
        x.hand(0, 1);
        x.hand(1, 2);
        x.hand(2, 4);
        x.hand(3, 8);
        for (int hand = 0; hand < 4; hand++) {
            DUE.is("8: kinds of HAND " + hand, x.told(10 + hand), 1 << hand);
            DUE.is("8: hand(" + hand + ", the same)", x.hand(hand, 1 << hand), 1 << hand);
        }
    }
}
