import java.util.Random;

/** All promises: many runs of calls, the same on the class and on the plain model, which must answer alike. */
public final class ModelTest {
    private static final Due DUE = new Due();
    private static final int RUNS = 400, CALLS = 150;
    private final Random random;
    private final LastMap x = new LastMap();
    private final Model y = new Model();
    private final int run;

    private ModelTest(int run) {
        this.run = run;
        this.random = new Random(run);
    }

    public static void main(String[] args) {
        for (int run = 0; run < RUNS; run++) {
            new ModelTest(run).play();
        }
        DUE.end();
    }

    private void is(String call, int got, int want) {
        DUE.is("run " + run + ": " + call, got, want);
    }

    private int from(int low, int high) {
        return low + random.nextInt(high - low + 1);
    }

    /** Mostly within bounds, at times one beyond either. */
    private int near(int low, int high) {
        return random.nextInt(12) == 0 ? from(low - 1, high + 1) : from(low, high);
    }

    /* Six sites take the model long: they come seldom. */
    private void play() {
        if (run % 20 != 0) {
            int n = from(2, 5);
            is("sites(" + n + ")", x.sites(n), y.sites(n));
        }
        for (int hand = 0; hand < 4; hand++) {
            int kinds = random.nextInt(3) == 0 ? 15 : from(0, 15);
            is("hand(" + hand + ", " + kinds + ")", x.hand(hand, kinds), y.hand(hand, kinds));
        }
        for (int map = 0; map < 6; map++) {
            if (random.nextInt(8) != 0) {
                writeMap(x.told(1));
                is("map(" + map + ")", x.map(map), y.map(map));
            }
        }
        for (int call = 0; call < CALLS; call++) {
            ask(from(0, 27));
        }
    }

    private void write(String text) {
        is("wipe()", x.wipe(), y.wipe());
        for (int i = 0; i < text.length(); i++) {
            is("say(" + text.charAt(i) + ")", x.say(text.charAt(i)), y.say(text.charAt(i)));
        }
        for (int how = 0; how < 3; how++) {
            is("fault(" + how + ") of '" + text + "'", x.fault(how), y.fault(how));
        }
    }

    private void writeMap(int length) {
        int kinds = from(1, 5);
        StringBuilder text = new StringBuilder();
        for (int i = 0; i < length; i++) {
            text.append("a-cbd".charAt(random.nextInt(kinds)));
        }
        write(text.toString());
    }

    private void writeWish() {
        StringBuilder text = new StringBuilder();
        int length = random.nextInt(10) == 0 ? from(0, 7) : x.told(1);
        for (int i = 0; i < length; i++) {
            text.append("abcd-?????".charAt(random.nextInt(10)));
        }
        write(text.toString());
    }

    private void writeSlips() {
        StringBuilder text = new StringBuilder();
        int slips = random.nextInt(6) == 0 ? from(8, 12) : from(0, 4);
        for (int i = 0; i < slips; i++) {
            int kind = random.nextInt(4);
            text.append("csto".charAt(kind)).append(from(0, x.told(1) - (kind == 1 || kind == 2 ? 2 : 1)));
            if (kind == 0) {
                text.append("abcd".charAt(random.nextInt(4)));
            }
        }
        if (text.length() > 0 && random.nextInt(4) == 0) {
            text.setCharAt(random.nextInt(text.length()), "abcdsto-?0123456z!".charAt(random.nextInt(18)));
        }
        if (random.nextInt(8) == 0) {
            text.append("csto4".charAt(random.nextInt(5)));
        }
        write(text.toString());
    }

    private void ask(int which) {
        int map = near(0, 5);
        int other = near(0, 5);
        int hand = near(0, 3);
        int set = random.nextInt(3) == 0 ? near(1, 63) : 1 + random.nextInt(63) & x.told(2);
        int site = near(-1, x.told(1) - 1);
        int i = near(-1, 4);
        switch (which) {
            case 0, 1 -> askRarely(map, hand);
            case 2 -> writeSlips();
            case 3 -> writeWish();
            case 4 -> {
                writeMap(near(2, 6));
                is("map(" + map + ")", x.map(map), y.map(map));
            }
            case 5, 6, 7 -> {
                writeSlips();
                is("judge(" + map + ")", x.judge(map), y.judge(map));
                is("copy(" + map + ", " + other + ")", x.copy(map, other), y.copy(map, other));
            }
            case 8 -> is("at(" + map + ", " + site + ")", x.at(map, site), y.at(map, site));
            case 9, 10, 11 -> is("far(" + map + ", " + other + ", " + hand + ", " + i + ")",
                x.far(map, other, hand, i), y.far(map, other, hand, i));
            case 12 -> {
                int k = random.nextBoolean() ? near(0, 30) : near(0, 5);
                is("who(" + map + ", " + other + ", " + k + ")", x.who(map, other, k), y.who(map, other, k));
            }
            case 13 -> {
                int e = near(1, 9);
                is("between(" + map + ", " + other + ", " + hand + ", " + e + ")",
                    x.between(map, other, hand, e), y.between(map, other, hand, e));
            }
            case 14, 15 -> {
                int what = random.nextInt(10) == 0 ? from(-1, 17) : random.nextBoolean() ? from(0, 1) : from(10, 15);
                is("tree(" + set + ", " + hand + ", " + what + ")", x.tree(set, hand, what), y.tree(set, hand, what));
            }
            case 16, 17 -> is("lost(" + set + ", " + hand + ", " + i + ")", x.lost(set, hand, i), y.lost(set, hand, i));
            case 18, 19, 20 -> {
                writeWish();
                int read = random.nextBoolean() ? 0 : near(0, (1 << x.told(1)) - 1);
                is("wished(" + map + ", " + hand + ", " + read + ", " + i + ")",
                    x.wished(map, hand, read, i), y.wished(map, hand, read, i));
            }
            case 21 -> is("holds(" + set + ", " + site + ")", x.holds(set, site), y.holds(set, site));
            case 22 -> is("land(" + site + ")", x.land(site), y.land(site));
            case 23 -> is("years(" + map + ")", x.years(map), y.years(map));
            case 24 -> {
                int years = random.nextBoolean() ? near(0, 9) : from(0, 2);
                is("follow(" + map + ", " + years + ")", x.follow(map, years), y.follow(map, years));
            }
            case 25, 26 -> {
                int seed = near(0, 9999);
                int m = random.nextBoolean() ? near(0, 60) : from(0, 3);
                is("drawn(" + seed + ", " + map + ", " + hand + ", " + m + ", " + site + ")",
                    x.drawn(seed, map, hand, m, site), y.drawn(seed, map, hand, m, site));
            }
            default -> {
                int what = from(-1, 15);
                is("told(" + what + ")", x.told(what), y.told(what));
            }
        }
    }

    private void askRarely(int map, int hand) {
        int image = near(0, 1);
        switch (random.nextInt(6)) {
            case 0 -> is("image(" + image + ")", x.image(image), y.image(image));
            case 1 -> is("restore(" + image + ")", x.restore(image), y.restore(image));
            case 2 -> {
                int v = near(1, 6);
                is("spades(" + v + ")", x.spades(v), y.spades(v));
            }
            case 3 -> {
                int kinds = near(0, 15);
                is("hand(" + hand + ", " + kinds + ")", x.hand(hand, kinds), y.hand(hand, kinds));
            }
            case 4 -> {
                int sign = random.nextBoolean() ? near(33, 126) : 'a';
                is("say(" + sign + ")", x.say(sign), y.say(sign));
            }
            default -> {
                if (random.nextInt(6) == 0) {
                    int n = near(2, 5);
                    is("sites(" + n + ")", x.sites(n), y.sites(n));
                }
            }
        }
    }
}
