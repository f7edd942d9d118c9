import java.util.Arrays;

/** Maps of a few sites, each drawn by eye from the one before. The document tells what each call answers. */
public final class LastMap {
    public static final int UNKNOWN = -1, OUTSIDE = -2, STATE = -3, FULL = -4, NO = -5, NONE = -6;

    private static final int MAPS = 6, HANDS = 4, IMAGES = 2, MOST_SITES = 6, SIGNS = 5;
    private static final int ALL_MAPS = 63, ALL_KINDS = 15, MOST_SPADES = 6, MOST_YEARS = 9;
    private static final int MISREAD = 0, SWAPPED = 1, TWICE = 2, LEFT_OUT = 3;
    private static final int GAP = 4, ANY = 5;
    private static final int AS_MAP = 0, AS_SLIPS = 1, AS_WISH = 2;

    private final Pad pad = new Pad();
    private final Papers papers = new Papers();
    private final Papers[] images = new Papers[IMAGES];
    /* Both are made when a call first needs them: most of an object's room is theirs. */
    private Search search;
    private Trees trees;

    /** Six sites, no map told. */
    public LastMap() {
    }

    // ---- 1 maps, hands

    public int sites(int n) {
        if (n < 2 || n > MOST_SITES) {
            return OUTSIDE;
        }
        int before = papers.siteCount;
        papers.siteCount = n;
        papers.toldMaps = 0;
        papers.ground = 0;
        return before;
    }

    public int say(int sign) {
        if (sign < 33 || sign > 126) {
            return OUTSIDE;
        }
        return pad.put(sign) ? pad.length : FULL;
    }

    public int wipe() {
        int before = pad.length;
        pad.length = 0;
        return before;
    }

    public int fault(int how) {
        return how < AS_MAP || how > AS_WISH ? OUTSIDE : pad.firstWrong(how, papers.siteCount);
    }

    public int map(int map) {
        if (!isMap(map)) {
            return UNKNOWN;
        }
        if (pad.firstWrong(AS_MAP, papers.siteCount) != NONE) {
            return NO;
        }
        papers.tell(map, pad.mapCode());
        pad.length = 0;
        return 1;
    }

    public int at(int map, int site) {
        if (!isMap(map) || !isSite(site)) {
            return UNKNOWN;
        }
        if (!isTold(map)) {
            return STATE;
        }
        return Signs.written(Maps.signAt(papers.codeOf(map), site));
    }

    public int hand(int hand, int kinds) {
        if (!isHand(hand)) {
            return UNKNOWN;
        }
        if (kinds < 0 || kinds > ALL_KINDS) {
            return OUTSIDE;
        }
        int before = papers.kindsOf(hand);
        papers.teach(hand, kinds);
        return before;
    }

    // ---- 2 copies

    public int judge(int map) {
        if (!isMap(map)) {
            return UNKNOWN;
        }
        if (!isTold(map)) {
            return STATE;
        }
        if (pad.firstWrong(AS_SLIPS, papers.siteCount) != NONE) {
            return NO;
        }
        return firstIdle(papers.codeOf(map));
    }

    public int copy(int map, int from) {
        if (!isMap(map) || !isMap(from)) {
            return UNKNOWN;
        }
        if (!isTold(from)) {
            return STATE;
        }
        if (pad.firstWrong(AS_SLIPS, papers.siteCount) != NONE || firstIdle(papers.codeOf(from)) != NONE) {
            return NO;
        }
        int code = papers.codeOf(from);
        int slips = pad.readSlips();
        for (int i = 0; i < slips; i++) {
            code = Slips.after(code, pad.slipAt(i));
        }
        papers.tell(map, code);
        pad.length = 0;
        return slips;
    }

    public int far(int from, int to, int hand, int i) {
        if (!isMap(from) || !isMap(to) || !isHand(hand)) {
            return UNKNOWN;
        }
        if (!isTold(from) || !isTold(to)) {
            return STATE;
        }
        return rowAnswer(tableOf(to, hand), papers.codeOf(from), hand, i);
    }

    public int who(int from, int to, int k) {
        if (!isMap(from) || !isMap(to)) {
            return UNKNOWN;
        }
        if (k < 0 || k > 30) {
            return OUTSIDE;
        }
        if (!isTold(from) || !isTold(to)) {
            return STATE;
        }
        int bits = 0;
        for (int hand = 0; hand < HANDS; hand++) {
            int slips = tableOf(to, hand).slipsFrom(papers.codeOf(from));
            if (slips >= 0 && slips <= k) {
                bits |= 1 << hand;
            }
        }
        return bits;
    }

    public int between(int from, int to, int hand, int e) {
        if (!isMap(from) || !isMap(to) || !isHand(hand)) {
            return UNKNOWN;
        }
        if (e < 1 || e > 9) {
            return OUTSIDE;
        }
        if (!isTold(from) || !isTold(to)) {
            return STATE;
        }
        int slips = tableOf(to, hand).slipsFrom(papers.codeOf(from));
        return slips < 0 ? NONE : (slips + e - 1) / e;
    }

    // ---- 3 trees

    public int tree(int set, int hand, int what) {
        if (!isHand(hand)) {
            return UNKNOWN;
        }
        if (!isSet(set) || !isTreeQuestion(set, what)) {
            return OUTSIDE;
        }
        if (!areTold(set)) {
            return STATE;
        }
        if (trees == null) {
            trees = new Trees();
        }
        for (int to = 0; to < MAPS; to++) {
            if (isOf(set, to)) {
                noteAllTo(to, set, hand);
            }
        }
        trees.seek(set);
        return trees.answer(what);
    }

    public int lost(int set, int hand, int i) {
        if (!isHand(hand)) {
            return UNKNOWN;
        }
        if (!isSet(set)) {
            return OUTSIDE;
        }
        if (!areTold(set)) {
            return STATE;
        }
        Search finder = readySearch();
        finder.clearSums();
        for (int map = 0; map < MAPS; map++) {
            if (isOf(set, map)) {
                finder.addToSums(tableOf(map, hand));
            }
        }
        int first = finder.firstOfLeastSum(papers.siteCount);
        if (first < 0) {
            return NONE;
        }
        if (i == -1) {
            return finder.sumOf(first);
        }
        return isSite(i) ? Signs.written(Maps.signAt(first, i)) : NONE;
    }

    public int wished(int map, int hand, int read, int i) {
        if (!isMap(map) || !isHand(hand)) {
            return UNKNOWN;
        }
        if (read < 0 || read >= 1 << papers.siteCount) {
            return OUTSIDE;
        }
        if (!isTold(map)) {
            return STATE;
        }
        if (pad.firstWrong(AS_WISH, papers.siteCount) != NONE) {
            return NO;
        }
        int code = papers.codeOf(map);
        int goal = goalPast(read, code);
        if (goal == NONE) {
            return NONE;
        }
        Table table = readySearch().toward(goal, papers.kindsOf(hand), papers.siteCount);
        return rowAnswer(table, code, hand, i);
    }

    public int holds(int set, int site) {
        if (site != -1 && !isSite(site)) {
            return UNKNOWN;
        }
        if (!isSet(set)) {
            return OUTSIDE;
        }
        if (!areTold(set)) {
            return STATE;
        }
        if (site != -1) {
            return Signs.written(mostAt(set, site));
        }
        int bits = 0;
        for (int place = 0; place < papers.siteCount; place++) {
            int most = mostAt(set, place);
            if (howMany(set, place, most) == Integer.bitCount(set)) {
                bits |= 1 << place;
            }
        }
        return bits;
    }

    // ---- 4 the land, draws

    public int spades(int v) {
        if (v < 1 || v > MOST_SPADES) {
            return OUTSIDE;
        }
        int before = papers.spadeCount;
        papers.spadeCount = v;
        return before;
    }

    public int land(int site) {
        return isSite(site) ? Signs.written(Maps.signAt(papers.ground, site)) : UNKNOWN;
    }

    public int years(int map) {
        if (!isMap(map)) {
            return UNKNOWN;
        }
        if (!isTold(map)) {
            return STATE;
        }
        int other = Maps.unlike(papers.ground, papers.codeOf(map));
        int spades = Math.max(1, papers.spadeCount);
        return (other + spades - 1) / spades;
    }

    public int follow(int map, int years) {
        if (!isMap(map)) {
            return UNKNOWN;
        }
        if (years < 0 || years > MOST_YEARS) {
            return OUTSIDE;
        }
        if (!isTold(map)) {
            return STATE;
        }
        int code = papers.codeOf(map);
        int dug = years * papers.spadeCount;
        for (int site = 0; site < papers.siteCount && dug > 0; site++) {
            int sign = Maps.signAt(code, site);
            if (Maps.signAt(papers.ground, site) != sign) {
                papers.ground = Maps.with(papers.ground, site, sign);
                dug--;
            }
        }
        return Maps.unlike(papers.ground, code);
    }

    public int drawn(int seed, int map, int hand, int m, int site) {
        if (!isMap(map) || !isHand(hand) || site != -1 && !isSite(site)) {
            return UNKNOWN;
        }
        if (seed < 0 || seed > 9999 || m < 0 || m > 60) {
            return OUTSIDE;
        }
        if (!isTold(map)) {
            return STATE;
        }
        int first = papers.codeOf(map);
        int code = first;
        int x = seed;
        for (int draw = 0; draw < m; draw++) {
            x = (75 * x + 74) % 65537;
            code = afterDraw(code, x, papers.kindsOf(hand));
        }
        return site == -1 ? Maps.unlike(code, first) : Signs.written(Maps.signAt(code, site));
    }

    public int image(int n) {
        if (n < 0 || n >= images.length) {
            return OUTSIDE;
        }
        if (images[n] == null) {
            images[n] = new Papers();
        }
        images[n].take(papers);
        return 1;
    }

    public int restore(int n) {
        if (n < 0 || n >= images.length) {
            return OUTSIDE;
        }
        Papers kept = images[n];
        if (kept == null) {
            return STATE;
        }
        papers.take(kept);
        return 1;
    }

    public int told(int what) {
        if (what >= 10 && isHand(what - 10)) {
            return papers.kindsOf(what - 10);
        }
        switch (what) {
            case 0:
                return pad.length;
            case 1:
                return papers.siteCount;
            case 2:
                return papers.toldMaps;
            case 3:
                return papers.spadeCount;
            default:
                return OUTSIDE;
        }
    }

    // ---- what there is

    private static boolean isMap(int map) {
        return map >= 0 && map < MAPS;
    }

    private static boolean isHand(int hand) {
        return hand >= 0 && hand < HANDS;
    }

    private boolean isSite(int site) {
        return site >= 0 && site < papers.siteCount;
    }

    private static boolean isSet(int set) {
        return set >= 1 && set <= ALL_MAPS;
    }

    private static boolean isOf(int set, int map) {
        return isMap(map) && (set >> map & 1) != 0;
    }

    private boolean isTold(int map) {
        return isOf(papers.toldMaps, map);
    }

    private boolean areTold(int set) {
        return (papers.toldMaps & set) == set;
    }

    /* Less than 10 is looked at first: the lowest numbers less 10 would wrap around. */
    private static boolean isTreeQuestion(int set, int what) {
        return what == 0 || what == 1 || what >= 10 && isOf(set, what - 10);
    }

    // ---- slips

    private int firstIdle(int code) {
        int slips = pad.readSlips();
        int drawing = code;
        for (int i = 0; i < slips; i++) {
            int next = Slips.after(drawing, pad.slipAt(i));
            if (next == drawing) {
                return i;
            }
            drawing = next;
        }
        return NONE;
    }

    private int afterDraw(int code, int x, int kinds) {
        int some = 0;
        for (int i = 0; i < Slips.COUNT; i++) {
            if (isSome(code, Slips.inOrder(i), kinds)) {
                some++;
            }
        }
        if (some == 0) {
            return code;
        }
        int left = x % some;
        for (int i = 0; i < Slips.COUNT; i++) {
            int slip = Slips.inOrder(i);
            if (isSome(code, slip, kinds)) {
                if (left == 0) {
                    return Slips.after(code, slip);
                }
                left--;
            }
        }
        return code;
    }

    private boolean isSome(int code, int slip, int kinds) {
        return Slips.isMade(slip, kinds, papers.siteCount) && Slips.after(code, slip) != code;
    }

    // ---- tables of FAR

    private Search readySearch() {
        if (search == null) {
            search = new Search();
        }
        return search;
    }

    private Table tableOf(int to, int hand) {
        int goal = Goals.onlyMap(papers.codeOf(to), papers.siteCount);
        return readySearch().toward(goal, papers.kindsOf(hand), papers.siteCount);
    }

    private void noteAllTo(int to, int set, int hand) {
        Table table = tableOf(to, hand);
        for (int from = 0; from < MAPS; from++) {
            if (isOf(set, from) && trees != null) {
                trees.note(from, to, table.slipsFrom(papers.codeOf(from)));
            }
        }
    }

    private int rowAnswer(Table table, int code, int hand, int i) {
        if (i == -1) {
            return table.slipsFrom(code);
        }
        if (i < 0 || i >= table.slipsFrom(code)) {
            return NONE;
        }
        int drawing = code;
        int slip = NONE;
        for (int step = 0; step <= i; step++) {
            slip = firstNearer(table, drawing, papers.kindsOf(hand));
            drawing = Slips.after(drawing, slip);
        }
        return slip;
    }

    private int firstNearer(Table table, int code, int kinds) {
        int wanted = table.known(code) - 1;
        for (int i = 0; i < Slips.COUNT; i++) {
            int slip = Slips.inOrder(i);
            if (Slips.isMade(slip, kinds, papers.siteCount) && table.known(Slips.after(code, slip)) == wanted) {
                return slip;
            }
        }
        return NONE;
    }

    /* What the WISH asks, and at READ SITES what stood there; NONE, if the two can't be had together. */
    private int goalPast(int read, int code) {
        int goal = 0;
        for (int site = 0; site < papers.siteCount; site++) {
            int wish = pad.markAt(site);
            int stood = Maps.signAt(code, site);
            boolean isRead = (read >> site & 1) != 0;
            if (isRead && wish != ANY && wish != stood) {
                return NONE;
            }
            goal = Goals.with(goal, site, isRead ? stood : wish);
        }
        return goal;
    }

    // ---- maps of a set

    private int howMany(int set, int site, int sign) {
        int many = 0;
        for (int map = 0; map < MAPS; map++) {
            if (isOf(set, map) && Maps.signAt(papers.codeOf(map), site) == sign) {
                many++;
            }
        }
        return many;
    }

    private int mostAt(int set, int site) {
        int most = 0;
        for (int sign = 1; sign < SIGNS; sign++) {
            if (howMany(set, site, sign) > howMany(set, site, most)) {
                most = sign;
            }
        }
        return most;
    }

    /** Signs as numbers in their order (a b c d -, then ?), and as they are written. */
    private static final class Signs {
        private static final int[] WRITTEN = {'a', 'b', 'c', 'd', '-', '?'};

        static int written(int sign) {
            return sign >= 0 && sign < WRITTEN.length ? WRITTEN[sign] : 0;
        }

        static int number(int written) {
            for (int sign = 0; sign < WRITTEN.length; sign++) {
                if (WRITTEN[sign] == written) {
                    return sign;
                }
            }
            return -1;
        }
    }

    /**
     * A map as one number, five signs to a site, site 0 the weightiest: so the order of numbers is the
     * order by signs. Sites that there are not stay a, so that no function here needs to know n.
     */
    private static final class Maps {
        static final int COUNT = 15625;
        private static final int[] WEIGHTS = {3125, 625, 125, 25, 5, 1};

        static int weight(int site) {
            return site >= 0 && site < WEIGHTS.length ? WEIGHTS[site] : 1;
        }

        static int countOf(int n) {
            int weight = weight(n - 1);
            return weight < 1 ? 0 : COUNT / weight;
        }

        static int signAt(int code, int site) {
            return signBy(code, weight(site));
        }

        static int signBy(int code, int weight) {
            return weight < 1 ? 0 : code / weight % SIGNS;
        }

        static int with(int code, int site, int sign) {
            return code + (sign - signAt(code, site)) * weight(site);
        }

        static int unlike(int one, int other) {
            int many = 0;
            for (int site = 0; site < MOST_SITES; site++) {
                if (signAt(one, site) != signAt(other, site)) {
                    many++;
                }
            }
            return many;
        }
    }

    /** Slips as the document numbers them: 100 times the kind, 10 times the site, and the letter. */
    private static final class Slips {
        static final int COUNT = 40;
        private static final int[] ORDER = {
            0, 1, 2, 3, 10, 11, 12, 13, 20, 21, 22, 23, 30, 31, 32, 33, 40, 41, 42, 43, 50, 51, 52, 53,
            100, 110, 120, 130, 140, 200, 210, 220, 230, 240, 300, 310, 320, 330, 340, 350};

        static int inOrder(int i) {
            return i >= 0 && i < ORDER.length ? ORDER[i] : NONE;
        }

        static int number(int kind, int site, int letter) {
            return 100 * kind + 10 * site + letter;
        }

        static int sitesFor(int kind, int n) {
            return kind == SWAPPED || kind == TWICE ? n - 1 : n;
        }

        static boolean isMade(int slip, int kinds, int n) {
            int kind = slip / 100;
            return slip >= 0 && (kinds >> kind & 1) != 0 && slip / 10 % 10 < sitesFor(kind, n);
        }

        static int after(int code, int slip) {
            if (slip < 0) {
                return code;
            }
            int site = slip / 10 % 10;
            int here = Maps.signAt(code, site);
            switch (slip / 100) {
                case MISREAD:
                    return Maps.with(code, site, slip % 10);
                case SWAPPED:
                    return Maps.with(Maps.with(code, site, Maps.signAt(code, site + 1)), site + 1, here);
                case TWICE:
                    return Maps.with(code, site + 1, here);
                case LEFT_OUT:
                    return Maps.with(code, site, GAP);
                default:
                    return code;
            }
        }
    }

    /** What a row of slips must come to: a sign or any at each site, three bits a site. */
    private static final class Goals {
        static int with(int goal, int site, int mark) {
            return goal | mark << 3 * site;
        }

        static int markAt(int goal, int site) {
            return goal >> 3 * site & 7;
        }

        static int onlyMap(int code, int n) {
            int goal = 0;
            for (int site = 0; site < n; site++) {
                goal = with(goal, site, Maps.signAt(code, site));
            }
            return goal;
        }
    }

    /** Signs said one by one, and read as a map, as slips or as a wish. */
    private static final class Pad {
        private static final int MOST_SLIPS = 10;
        private final int[] signs = new int[40];
        private final int[] slips = new int[MOST_SLIPS];
        int length;

        boolean put(int sign) {
            if (length < 0 || length >= signs.length) {
                return false;
            }
            signs[length] = sign;
            length++;
            return true;
        }

        private int signAt(int place) {
            return place >= 0 && place < length && place < signs.length ? signs[place] : 0;
        }

        int markAt(int place) {
            return Signs.number(signAt(place));
        }

        int firstWrong(int how, int n) {
            if (how == AS_SLIPS) {
                return firstWrongOfSlips(n);
            }
            int last = how == AS_WISH ? ANY : GAP;
            for (int place = 0; place < length; place++) {
                int mark = markAt(place);
                if (place >= n || mark < 0 || mark > last) {
                    return place;
                }
            }
            return length < n ? length : NONE;
        }

        private int firstWrongOfSlips(int n) {
            int place = 0;
            for (int slip = 0; slip < MOST_SLIPS && place < length; slip++) {
                int wrong = firstWrongOfSlip(place, n);
                if (wrong != NONE) {
                    return wrong;
                }
                place += lengthOfSlip(place);
            }
            return place < length ? place : NONE;
        }

        private int firstWrongOfSlip(int start, int n) {
            int kind = kindAt(start);
            if (kind < 0) {
                return start;
            }
            if (start + 1 >= length) {
                return length;
            }
            int site = signAt(start + 1) - '0';
            if (site < 0 || site >= Slips.sitesFor(kind, n)) {
                return start + 1;
            }
            if (kind != MISREAD) {
                return NONE;
            }
            if (start + 2 >= length) {
                return length;
            }
            int letter = markAt(start + 2);
            return letter < 0 || letter >= GAP ? start + 2 : NONE;
        }

        private int kindAt(int place) {
            switch (signAt(place)) {
                case 'c':
                    return MISREAD;
                case 's':
                    return SWAPPED;
                case 't':
                    return TWICE;
                case 'o':
                    return LEFT_OUT;
                default:
                    return -1;
            }
        }

        private int lengthOfSlip(int start) {
            return kindAt(start) == MISREAD ? 3 : 2;
        }

        int mapCode() {
            int code = 0;
            for (int site = 0; site < length && site < MOST_SITES; site++) {
                code = Maps.with(code, site, markAt(site));
            }
            return code;
        }

        /* Only behind firstWrong: how many slips there are; slipAt tells them then. */
        int readSlips() {
            int many = 0;
            int place = 0;
            while (many < slips.length && place < length) {
                int kind = kindAt(place);
                int letter = kind == MISREAD ? markAt(place + 2) : 0;
                slips[many] = Slips.number(kind, signAt(place + 1) - '0', letter);
                many++;
                place += lengthOfSlip(place);
            }
            return many;
        }

        int slipAt(int i) {
            return i >= 0 && i < slips.length ? slips[i] : NONE;
        }
    }

    /** All that an image keeps. */
    private static final class Papers {
        int siteCount = MOST_SITES;
        int toldMaps;
        int spadeCount = 1;
        int ground;
        private final int[] codes = new int[MAPS];
        private final int[] kinds = {ALL_KINDS, ALL_KINDS, ALL_KINDS, ALL_KINDS};

        int codeOf(int map) {
            return map >= 0 && map < codes.length ? codes[map] : 0;
        }

        void tell(int map, int code) {
            if (map >= 0 && map < codes.length) {
                codes[map] = code;
                toldMaps |= 1 << map;
            }
        }

        int kindsOf(int hand) {
            return hand >= 0 && hand < kinds.length ? kinds[hand] : 0;
        }

        void teach(int hand, int bits) {
            if (hand >= 0 && hand < kinds.length) {
                kinds[hand] = bits;
            }
        }

        void take(Papers other) {
            siteCount = other.siteCount;
            toldMaps = other.toldMaps;
            spadeCount = other.spadeCount;
            ground = other.ground;
            for (int map = 0; map < codes.length; map++) {
                codes[map] = other.codeOf(map);
            }
            for (int hand = 0; hand < kinds.length; hand++) {
                kinds[hand] = other.kindsOf(hand);
            }
        }
    }

    /** The fewest slips from maps to one goal, searched backwards from it, and only as far as was asked. */
    private static final class Table {
        private static final int NO_MAP = -1;
        private final byte[] slips = new byte[Maps.COUNT];
        private final int[] queue = new int[Maps.COUNT];
        private int queued;
        private int searched;
        private int goal;
        private int kinds;
        private int n;

        boolean isFor(int otherGoal, int otherKinds, int otherN) {
            return goal == otherGoal && kinds == otherKinds && n == otherN;
        }

        void begin(int newGoal, int newKinds, int newN) {
            goal = newGoal;
            kinds = newKinds;
            n = newN;
            queued = 0;
            searched = 0;
            Arrays.fill(slips, (byte) NONE);
            queueGoal(0, 0);
        }

        int slipsFrom(int code) {
            searchFor(code);
            return known(code);
        }

        /* Behind slipsFrom all maps that are nearer than that one are known. */
        int known(int code) {
            return code >= 0 && code < slips.length ? slips[code] : NONE;
        }

        void searchAll() {
            searchFor(NO_MAP);
        }

        private void searchFor(int code) {
            int all = Maps.countOf(n);
            while (known(code) == NONE && queued < all && searched < queued && searched < queue.length) {
                queueBefore(queue[searched]);
                searched++;
            }
        }

        private void queueGoal(int site, int code) {
            if (site >= n || site >= MOST_SITES) {
                reach(code, 0);
                return;
            }
            int mark = Goals.markAt(goal, site);
            for (int sign = 0; sign < SIGNS; sign++) {
                if (mark == ANY || mark == sign) {
                    queueGoal(site + 1, code + sign * Maps.weight(site));
                }
            }
        }

        /* All maps of which a single slip makes this one. */
        private void queueBefore(int code) {
            int many = known(code) + 1;
            int left = -1;
            for (int site = 0; site < n; site++) {
                int weight = Maps.weight(site);
                int sign = Maps.signBy(code, weight);
                if (canHaveMade(left, sign)) {
                    int cleared = code - sign * weight;
                    for (int other = 0; other < SIGNS; other++) {
                        reach(cleared + other * weight, many);
                    }
                }
                if (left >= 0 && left != sign && (kinds >> SWAPPED & 1) != 0) {
                    int leftWeight = SIGNS * weight;
                    reach(code + (sign - left) * (leftWeight - weight), many);
                }
                left = sign;
            }
        }

        /* Whether one slip can have put this sign, whatever was there. */
        private boolean canHaveMade(int left, int sign) {
            return left == sign && (kinds >> TWICE & 1) != 0
                || (kinds >> (sign == GAP ? LEFT_OUT : MISREAD) & 1) != 0;
        }

        /* Only the first row that gets to a map counts: it is the shortest. */
        private void reach(int code, int many) {
            if (code < 0 || code >= slips.length || slips[code] != NONE) {
                return;
            }
            if (queued >= 0 && queued < queue.length) {
                slips[code] = (byte) many;
                queue[queued] = code;
                queued++;
            }
        }
    }

    /** Keeps some tables, for calls often ask for one again; and sums of tables. */
    private static final class Search {
        private static final int KEPT = 8;
        private final Table[] tables = new Table[KEPT];
        private final int[] sums = new int[Maps.COUNT];
        private int oldest;

        /* A table is good until the next call of this: it may be begun anew for another goal then. */
        Table toward(int goal, int kinds, int n) {
            for (int i = 0; i < tables.length; i++) {
                Table table = tables[i];
                if (table != null && table.isFor(goal, kinds, n)) {
                    return table;
                }
            }
            Table table = takeOldest();
            table.begin(goal, kinds, n);
            return table;
        }

        private Table takeOldest() {
            int i = oldest >= 0 && oldest < tables.length ? oldest : 0;
            oldest = i + 1;
            Table table = tables[i];
            if (table == null) {
                table = new Table();
                tables[i] = table;
            }
            return table;
        }

        void clearSums() {
            Arrays.fill(sums, 0);
        }

        void addToSums(Table table) {
            table.searchAll();
            for (int code = 0; code < sums.length; code++) {
                int slips = table.known(code);
                sums[code] = slips < 0 || sums[code] < 0 ? NONE : sums[code] + slips;
            }
        }

        int sumOf(int code) {
            return code >= 0 && code < sums.length ? sums[code] : NONE;
        }

        int firstOfLeastSum(int n) {
            int first = NONE;
            int step = Math.max(1, Maps.weight(n - 1));
            for (int code = 0; code < sums.length; code += step) {
                if (sums[code] >= 0 && (first < 0 || sums[code] < sumOf(first))) {
                    first = code;
                }
            }
            return first;
        }
    }

    /** Goes through all trees of some maps, by the order in which the first of the best is asked for. */
    private static final class Trees {
        private static final int FIRST = MAPS, OPEN = MAPS + 1;
        private final int[] slips = new int[MAPS * MAPS];
        private final int[] from = new int[MAPS];
        private final int[] best = new int[MAPS];
        private int least;
        private int many;

        void note(int source, int to, int count) {
            if (isMap(source) && isMap(to)) {
                slips[source * MAPS + to] = count;
            }
        }

        private int slipsOf(int source, int to) {
            return isMap(source) && isMap(to) ? slips[source * MAPS + to] : NONE;
        }

        void seek(int set) {
            least = NONE;
            many = 0;
            Arrays.fill(from, OPEN);
            draw(set, 0, 0, false);
        }

        private void draw(int set, int map, int sum, boolean hasFirst) {
            if (least >= 0 && sum > least) {
                return;
            }
            if (map < 0 || map >= MAPS) {
                if (hasFirst) {
                    weigh(sum);
                }
                return;
            }
            if (!isOf(set, map)) {
                draw(set, map + 1, sum, hasFirst);
                return;
            }
            for (int source = 0; source < MAPS; source++) {
                int count = slipsOf(source, map);
                if (isOf(set, source) && count >= 0 && !comesOf(source, map)) {
                    from[map] = source;
                    draw(set, map + 1, sum + count, hasFirst);
                }
            }
            if (!hasFirst) {
                from[map] = FIRST;
                draw(set, map + 1, sum, true);
            }
            from[map] = OPEN;
        }

        /* Whether a map is another one, or drawn from it by others; open ones end the row. */
        private boolean comesOf(int map, int other) {
            int above = map;
            for (int steps = 0; steps < MAPS && isMap(above); steps++) {
                if (above == other) {
                    return true;
                }
                above = from[above];
            }
            return false;
        }

        private void weigh(int sum) {
            if (least < 0 || sum < least) {
                least = sum;
                many = 0;
                System.arraycopy(from, 0, best, 0, MAPS);
            }
            many++;
        }

        int answer(int what) {
            if (least < 0) {
                return NONE;
            }
            if (what < 10) {
                return what == 0 ? least : many;
            }
            int map = what - 10;
            return isMap(map) && isMap(best[map]) ? best[map] : NONE;
        }
    }
}
