import java.util.ArrayList;
import java.util.Arrays;
import java.util.HashMap;
import java.util.List;
import java.util.Map;

/**
 * The document once more, told in texts and as plainly as can be, without a thought for time or room; and by
 * other ways than the class where there are some: rows are searched forwards, trees are counted through.
 */
final class Model {
    private static final int UNKNOWN = -1, OUTSIDE = -2, STATE = -3, FULL = -4, NO = -5, NONE = -6;
    private static final String SIGNS = "abcd-";
    private static final Map<Integer, Graph> GRAPHS = new HashMap<>();

    private String pad = "";
    private Kept now = new Kept();
    private final Kept[] images = new Kept[2];

    private static final class Kept {
        int n = 6;
        int spades = 1;
        String[] maps = new String[6];
        int[] hands = {15, 15, 15, 15};
        String land = "aaaaaa";

        Kept again() {
            Kept other = new Kept();
            other.n = n;
            other.spades = spades;
            other.maps = maps.clone();
            other.hands = hands.clone();
            other.land = land;
            return other;
        }
    }

    /** All maps of n sites, and what every slip makes of them. */
    private static final class Graph {
        final List<String> maps = new ArrayList<>();
        final Map<String, Integer> places = new HashMap<>();
        final List<String> slips = new ArrayList<>();
        final int[][] after;
        final Map<Integer, int[]> backwards = new HashMap<>();

        Graph(int n, int kinds) {
            spell("", n);
            for (String slip : allSlips(n)) {
                if ((kinds >> "csto".indexOf(slip.charAt(0)) & 1) == 1) {
                    slips.add(slip);
                }
            }
            after = new int[maps.size()][slips.size()];
            for (int i = 0; i < maps.size(); i++) {
                for (int j = 0; j < slips.size(); j++) {
                    after[i][j] = places.get(made(maps.get(i), slips.get(j)));
                }
            }
        }

        private void spell(String text, int n) {
            if (text.length() == n) {
                places.put(text, maps.size());
                maps.add(text);
                return;
            }
            for (int i = 0; i < 5; i++) {
                spell(text + SIGNS.charAt(i), n);
            }
        }

        /* Slips from every map to one, by looking at all arrows until nothing gets nearer. */
        int[] backwards(int to) {
            int[] known = backwards.get(to);
            if (known != null) {
                return known;
            }
            int[] far = new int[maps.size()];
            Arrays.fill(far, NONE);
            far[to] = 0;
            boolean more = true;
            for (int d = 1; more; d++) {
                more = false;
                for (int i = 0; i < after.length; i++) {
                    for (int j = 0; far[i] == NONE && j < after[i].length; j++) {
                        if (far[after[i][j]] == d - 1) {
                            far[i] = d;
                            more = true;
                        }
                    }
                }
            }
            backwards.put(to, far);
            return far;
        }

        /* The first of the shortest rows to a map that fits: maps in the order of their first rows. */
        List<String> row(String from, String pattern) {
            int[] before = new int[maps.size()];
            int[] by = new int[maps.size()];
            Arrays.fill(before, -1);
            List<Integer> queue = new ArrayList<>();
            int start = places.get(from);
            before[start] = start;
            queue.add(start);
            for (int head = 0; head < queue.size(); head++) {
                int here = queue.get(head);
                if (fits(maps.get(here), pattern)) {
                    List<String> row = new ArrayList<>();
                    for (int at = here; at != start; at = before[at]) {
                        row.add(0, slips.get(by[at]));
                    }
                    return row;
                }
                for (int j = 0; j < slips.size(); j++) {
                    int next = after[here][j];
                    if (before[next] < 0) {
                        before[next] = here;
                        by[next] = j;
                        queue.add(next);
                    }
                }
            }
            return null;
        }
    }

    private static boolean fits(String map, String pattern) {
        for (int i = 0; i < map.length(); i++) {
            if (pattern.charAt(i) != '?' && pattern.charAt(i) != map.charAt(i)) {
                return false;
            }
        }
        return true;
    }

    private static List<String> allSlips(int n) {
        List<String> slips = new ArrayList<>();
        for (int site = 0; site < n; site++) {
            for (char letter = 'a'; letter <= 'd'; letter++) {
                slips.add("c" + site + letter);
            }
        }
        for (int site = 0; site < n - 1; site++) {
            slips.add("s" + site);
        }
        for (int site = 0; site < n - 1; site++) {
            slips.add("t" + site);
        }
        for (int site = 0; site < n; site++) {
            slips.add("o" + site);
        }
        return slips;
    }

    private static String made(String map, String slip) {
        char[] signs = map.toCharArray();
        int site = slip.charAt(1) - '0';
        switch (slip.charAt(0)) {
            case 'c' -> signs[site] = slip.charAt(2);
            case 's' -> {
                signs[site] = map.charAt(site + 1);
                signs[site + 1] = map.charAt(site);
            }
            case 't' -> signs[site + 1] = map.charAt(site);
            default -> signs[site] = '-';
        }
        return new String(signs);
    }

    private static int number(String slip) {
        int letter = slip.charAt(0) == 'c' ? slip.charAt(2) - 'a' : 0;
        return 100 * "csto".indexOf(slip.charAt(0)) + 10 * (slip.charAt(1) - '0') + letter;
    }

    private Graph graph(int hand) {
        int kinds = now.hands[hand];
        return GRAPHS.computeIfAbsent(100 * now.n + kinds, key -> new Graph(key / 100, key % 100));
    }

    private static boolean in(int number, int low, int high) {
        return number >= low && number <= high;
    }

    private boolean isMap(int map) {
        return in(map, 0, 5);
    }

    private boolean isHand(int hand) {
        return in(hand, 0, 3);
    }

    private boolean isSite(int site) {
        return in(site, 0, now.n - 1);
    }

    private List<Integer> members(int set) {
        List<Integer> members = new ArrayList<>();
        for (int map = 0; map < 6; map++) {
            if ((set >> map & 1) == 1) {
                members.add(map);
            }
        }
        return members;
    }

    private boolean areTold(int set) {
        for (int map : members(set)) {
            if (now.maps[map] == null) {
                return false;
            }
        }
        return true;
    }

    private static int unlike(String one, String other) {
        int many = 0;
        for (int i = 0; i < one.length(); i++) {
            many += one.charAt(i) != other.charAt(i) ? 1 : 0;
        }
        return many;
    }

    int sites(int n) {
        if (!in(n, 2, 6)) {
            return OUTSIDE;
        }
        int before = now.n;
        now.n = n;
        now.maps = new String[6];
        now.land = "a".repeat(n);
        return before;
    }

    int say(int sign) {
        if (!in(sign, 33, 126)) {
            return OUTSIDE;
        }
        if (pad.length() == 40) {
            return FULL;
        }
        pad += (char) sign;
        return pad.length();
    }

    int wipe() {
        int before = pad.length();
        pad = "";
        return before;
    }

    /* A text can stand as far as some whole text begins with it. */
    int fault(int how) {
        if (!in(how, 0, 2)) {
            return OUTSIDE;
        }
        for (int length = 1; length <= pad.length(); length++) {
            if (!canBegin(how, pad.substring(0, length))) {
                return length - 1;
            }
        }
        return isWhole(how, pad) ? NONE : pad.length();
    }

    private boolean canBegin(int how, String text) {
        if (how == 1) {
            String rest = text;
            int slips = 0;
            while (!rest.isEmpty()) {
                String begun = rest;
                List<String> slipsSo = new ArrayList<>();
                for (String slip : allSlips(now.n)) {
                    if (begun.startsWith(slip) || slip.startsWith(begun)) {
                        slipsSo.add(slip);
                    }
                }
                slips++;
                if (slipsSo.isEmpty() || slips > 10) {
                    return false;
                }
                rest = rest.substring(Math.min(rest.length(), slipsSo.get(0).length()));
            }
            return true;
        }
        return text.matches(how == 0 ? "[a-d-]{0," + now.n + "}" : "[a-d?-]{0," + now.n + "}");
    }

    private boolean isWhole(int how, String text) {
        return how == 1 ? slipsOf(text) != null : text.length() == now.n;
    }

    private List<String> slipsOf(String text) {
        List<String> row = new ArrayList<>();
        String rest = text;
        while (!rest.isEmpty()) {
            String next = null;
            for (String slip : allSlips(now.n)) {
                next = rest.startsWith(slip) ? slip : next;
            }
            if (next == null || row.size() == 10) {
                return null;
            }
            row.add(next);
            rest = rest.substring(next.length());
        }
        return row;
    }

    int map(int map) {
        if (!isMap(map)) {
            return UNKNOWN;
        }
        if (fault(0) != NONE) {
            return NO;
        }
        now.maps[map] = pad;
        pad = "";
        return 1;
    }

    int at(int map, int site) {
        if (!isMap(map) || !isSite(site)) {
            return UNKNOWN;
        }
        return now.maps[map] == null ? STATE : now.maps[map].charAt(site);
    }

    int hand(int hand, int kinds) {
        if (!isHand(hand)) {
            return UNKNOWN;
        }
        if (!in(kinds, 0, 15)) {
            return OUTSIDE;
        }
        int before = now.hands[hand];
        now.hands[hand] = kinds;
        return before;
    }

    int judge(int map) {
        if (!isMap(map)) {
            return UNKNOWN;
        }
        if (now.maps[map] == null) {
            return STATE;
        }
        List<String> row = slipsOf(pad);
        if (row == null) {
            return NO;
        }
        String drawing = now.maps[map];
        for (int i = 0; i < row.size(); i++) {
            String next = made(drawing, row.get(i));
            if (next.equals(drawing)) {
                return i;
            }
            drawing = next;
        }
        return NONE;
    }

    int copy(int map, int from) {
        if (!isMap(map) || !isMap(from)) {
            return UNKNOWN;
        }
        if (now.maps[from] == null) {
            return STATE;
        }
        List<String> row = slipsOf(pad);
        if (row == null || judge(from) != NONE) {
            return NO;
        }
        String drawing = now.maps[from];
        for (String slip : row) {
            drawing = made(drawing, slip);
        }
        now.maps[map] = drawing;
        pad = "";
        return row.size();
    }

    private static int answer(List<String> row, int i) {
        if (row == null) {
            return NONE;
        }
        if (i == -1) {
            return row.size();
        }
        return in(i, 0, row.size() - 1) ? number(row.get(i)) : NONE;
    }

    int far(int from, int to, int hand, int i) {
        if (!isMap(from) || !isMap(to) || !isHand(hand)) {
            return UNKNOWN;
        }
        if (now.maps[from] == null || now.maps[to] == null) {
            return STATE;
        }
        return answer(graph(hand).row(now.maps[from], now.maps[to]), i);
    }

    int who(int from, int to, int k) {
        if (!isMap(from) || !isMap(to)) {
            return UNKNOWN;
        }
        if (!in(k, 0, 30)) {
            return OUTSIDE;
        }
        if (now.maps[from] == null || now.maps[to] == null) {
            return STATE;
        }
        int bits = 0;
        for (int hand = 0; hand < 4; hand++) {
            bits += in(far(from, to, hand, -1), 0, k) ? 1 << hand : 0;
        }
        return bits;
    }

    int between(int from, int to, int hand, int e) {
        if (!isMap(from) || !isMap(to) || !isHand(hand)) {
            return UNKNOWN;
        }
        if (!in(e, 1, 9)) {
            return OUTSIDE;
        }
        if (now.maps[from] == null || now.maps[to] == null) {
            return STATE;
        }
        int slips = far(from, to, hand, -1);
        int copies = 0;
        while (copies * e < slips) {
            copies++;
        }
        return slips == NONE ? NONE : copies;
    }

    int tree(int set, int hand, int what) {
        if (!isHand(hand)) {
            return UNKNOWN;
        }
        boolean asked = what == 0 || what == 1 || in(what, 10, 15) && (set >> what - 10 & 1) == 1;
        if (!in(set, 1, 63) || !asked) {
            return OUTSIDE;
        }
        if (!areTold(set)) {
            return STATE;
        }
        return treeAnswer(members(set), hand, what);
    }

    /* Every way to give each map one of the maps or none, counted through as a number to the base 7. */
    private int treeAnswer(List<Integer> members, int hand, int what) {
        int[][] far = new int[6][6];
        for (int from : members) {
            for (int to : members) {
                far[from][to] = far(from, to, hand, -1);
            }
        }
        int ways = (int) Math.pow(7, members.size());
        int least = NONE;
        int many = 0;
        int[] best = null;
        for (int way = 0; way < ways; way++) {
            int[] from = new int[6];
            int rest = way;
            for (int i = members.size() - 1; i >= 0; i--) {
                from[members.get(i)] = rest % 7;
                rest /= 7;
            }
            int sum = sumOf(members, from, far);
            if (sum != NONE && (least == NONE || sum < least)) {
                least = sum;
                many = 0;
                best = from;
            }
            many += sum != NONE && sum == least ? 1 : 0;
        }
        if (best == null) {
            return NONE;
        }
        return what == 0 ? least : what == 1 ? many : best[what - 10] == 6 ? NONE : best[what - 10];
    }

    private static int sumOf(List<Integer> members, int[] from, int[][] far) {
        int sum = 0;
        int firsts = 0;
        for (int map : members) {
            if (from[map] == 6) {
                firsts++;
                continue;
            }
            if (!members.contains(from[map]) || far[from[map]][map] == NONE) {
                return NONE;
            }
            sum += far[from[map]][map];
            int above = map;
            for (int steps = 0; steps < 7 && above != 6; steps++) {
                above = members.contains(above) ? from[above] : 6;
            }
            if (above != 6) {
                return NONE;
            }
        }
        return firsts == 1 ? sum : NONE;
    }

    int lost(int set, int hand, int i) {
        if (!isHand(hand)) {
            return UNKNOWN;
        }
        if (!in(set, 1, 63)) {
            return OUTSIDE;
        }
        if (!areTold(set)) {
            return STATE;
        }
        Graph graph = graph(hand);
        int least = NONE;
        String first = null;
        for (int at = 0; at < graph.maps.size(); at++) {
            int sum = 0;
            for (int map : members(set)) {
                int far = graph.backwards(graph.places.get(now.maps[map]))[at];
                sum = far == NONE || sum == NONE ? NONE : sum + far;
            }
            if (sum != NONE && (first == null || sum < least)) {
                least = sum;
                first = graph.maps.get(at);
            }
        }
        if (first == null) {
            return NONE;
        }
        return i == -1 ? least : isSite(i) ? first.charAt(i) : NONE;
    }

    int wished(int map, int hand, int read, int i) {
        if (!isMap(map) || !isHand(hand)) {
            return UNKNOWN;
        }
        if (!in(read, 0, (1 << now.n) - 1)) {
            return OUTSIDE;
        }
        if (now.maps[map] == null) {
            return STATE;
        }
        if (fault(2) != NONE) {
            return NO;
        }
        StringBuilder pattern = new StringBuilder(pad);
        for (int site = 0; site < now.n; site++) {
            if ((read >> site & 1) == 1) {
                char stood = now.maps[map].charAt(site);
                if (pad.charAt(site) != '?' && pad.charAt(site) != stood) {
                    return NONE;
                }
                pattern.setCharAt(site, stood);
            }
        }
        return answer(graph(hand).row(now.maps[map], pattern.toString()), i);
    }

    int holds(int set, int site) {
        if (site != -1 && !isSite(site)) {
            return UNKNOWN;
        }
        if (!in(set, 1, 63)) {
            return OUTSIDE;
        }
        if (!areTold(set)) {
            return STATE;
        }
        if (site == -1) {
            int bits = 0;
            for (int place = 0; place < now.n; place++) {
                boolean alike = true;
                for (int map : members(set)) {
                    alike &= now.maps[map].charAt(place) == now.maps[members(set).get(0)].charAt(place);
                }
                bits += alike ? 1 << place : 0;
            }
            return bits;
        }
        int[] many = new int[5];
        for (int map : members(set)) {
            many[SIGNS.indexOf(now.maps[map].charAt(site))]++;
        }
        int most = Arrays.stream(many).max().getAsInt();
        for (int sign = 0; ; sign++) {
            if (many[sign] == most) {
                return SIGNS.charAt(sign);
            }
        }
    }

    int spades(int v) {
        if (!in(v, 1, 6)) {
            return OUTSIDE;
        }
        int before = now.spades;
        now.spades = v;
        return before;
    }

    int land(int site) {
        return isSite(site) ? now.land.charAt(site) : UNKNOWN;
    }

    private String yearLater(String land, String map) {
        StringBuilder next = new StringBuilder(land);
        int dug = 0;
        for (int site = 0; site < now.n && dug < now.spades; site++) {
            if (next.charAt(site) != map.charAt(site)) {
                next.setCharAt(site, map.charAt(site));
                dug++;
            }
        }
        return next.toString();
    }

    int years(int map) {
        if (!isMap(map)) {
            return UNKNOWN;
        }
        if (now.maps[map] == null) {
            return STATE;
        }
        int years = 0;
        for (String land = now.land; !land.equals(now.maps[map]); land = yearLater(land, now.maps[map])) {
            years++;
        }
        return years;
    }

    int follow(int map, int years) {
        if (!isMap(map)) {
            return UNKNOWN;
        }
        if (!in(years, 0, 9)) {
            return OUTSIDE;
        }
        if (now.maps[map] == null) {
            return STATE;
        }
        for (int year = 0; year < years; year++) {
            now.land = yearLater(now.land, now.maps[map]);
        }
        return unlike(now.land, now.maps[map]);
    }

    int drawn(int seed, int map, int hand, int m, int site) {
        if (!isMap(map) || !isHand(hand) || site != -1 && !isSite(site)) {
            return UNKNOWN;
        }
        if (!in(seed, 0, 9999) || !in(m, 0, 60)) {
            return OUTSIDE;
        }
        if (now.maps[map] == null) {
            return STATE;
        }
        String drawing = now.maps[map];
        int x = seed;
        for (int draw = 0; draw < m; draw++) {
            x = (75 * x + 74) % 65537;
            List<String> outcomes = new ArrayList<>();
            for (String slip : allSlips(now.n)) {
                boolean makes = (now.hands[hand] >> "csto".indexOf(slip.charAt(0)) & 1) == 1;
                if (makes && !made(drawing, slip).equals(drawing)) {
                    outcomes.add(made(drawing, slip));
                }
            }
            drawing = outcomes.isEmpty() ? drawing : outcomes.get(x % outcomes.size());
        }
        return site == -1 ? unlike(drawing, now.maps[map]) : drawing.charAt(site);
    }

    int image(int n) {
        if (!in(n, 0, 1)) {
            return OUTSIDE;
        }
        images[n] = now.again();
        return 1;
    }

    int restore(int n) {
        if (!in(n, 0, 1)) {
            return OUTSIDE;
        }
        if (images[n] == null) {
            return STATE;
        }
        now = images[n].again();
        return 1;
    }

    int told(int what) {
        int maps = 0;
        for (int map = 0; map < 6; map++) {
            maps += now.maps[map] != null ? 1 << map : 0;
        }
        if (in(what, 10, 13)) {
            return now.hands[what - 10];
        }
        return what == 0 ? pad.length() : what == 1 ? now.n : what == 2 ? maps : what == 3 ? now.spades : OUTSIDE;
    }
}
