import java.util.function.Supplier;
import java.util.function.ToIntFunction;

/**
 * Every refusal that a promise names, at both sides of each bound and in all ways together: the answer is the first
 * that fits (UNKNOWN, OUTSIDE, STATE, NO, FULL), and behind it the object is as one that was never asked. Calls that
 * only ask leave it so when they are not refused, too.
 */
public final class RefusalsTest {
    private static final Due DUE = new Due();
    private static final int[] ORDER = {LastMap.UNKNOWN, LastMap.OUTSIDE, LastMap.STATE, LastMap.NO, LastMap.FULL};
    private static final int LOW = Integer.MIN_VALUE, HIGH = Integer.MAX_VALUE;

    /** A number to call with, and what is refused because of it (0: nothing). */
    private record Arg(int value, int refusal) {
        @Override
        public String toString() {
            return String.valueOf(value);
        }
    }

    /** A text on the pad, and what is refused because of it (0: nothing). */
    private record Text(String signs, int refusal) {
    }

    private static final Text ANY = new Text("ab-", 0);

    public static void main(String[] args) {
        sites();
        say();
        fault();
        map();
        at();
        hand();
        judge();
        copy();
        far();
        who();
        between();
        tree();
        lost();
        wished();
        holds();
        spades();
        land();
        years();
        follow();
        drawn();
        image();
        restore();
        told();
        DUE.end();
    }

    // ---- what is called

    /* Three sites; maps 0, 3 and 5 are told; image 0 is kept and quite another, image 1 is not. */
    private static LastMap made(String pad) {
        LastMap x = Due.withSites(4);
        Due.tell(x, 2, "dcba");
        Due.tell(x, 3, "-b-b");
        x.hand(0, 9);
        x.hand(2, 4);
        x.spades(5);
        x.follow(2, 1);
        x.image(0);
        x.sites(3);
        x.hand(0, 15);
        x.hand(1, 6);
        x.hand(2, 0);
        x.hand(3, 9);
        x.spades(2);
        Due.tell(x, 0, "abc");
        Due.tell(x, 3, "b-d");
        Due.tell(x, 5, "ddd");
        x.follow(3, 1);
        Due.write(x, pad);
        return x;
    }

    private static Arg[] args(Arg[]... rows) {
        int length = 0;
        for (Arg[] row : rows) {
            length += row.length;
        }
        Arg[] all = new Arg[length];
        int next = 0;
        for (Arg[] row : rows) {
            for (Arg arg : row) {
                all[next++] = arg;
            }
        }
        return all;
    }

    private static Arg[] with(int refusal, int... values) {
        Arg[] row = new Arg[values.length];
        for (int i = 0; i < row.length; i++) {
            row[i] = new Arg(values[i], refusal);
        }
        return row;
    }

    private static Arg[] fine(int... values) {
        return with(0, values);
    }

    private static Arg[] unknown(int... values) {
        return with(LastMap.UNKNOWN, values);
    }

    private static Arg[] outside(int... values) {
        return with(LastMap.OUTSIDE, values);
    }

    private static Arg[] state(int... values) {
        return with(LastMap.STATE, values);
    }

    private static Arg[] mapsToTell() {
        return args(fine(0, 4, 5), unknown(-1, 6, 32, -32, LOW, HIGH));
    }

    private static Arg[] mapsTold() {
        return args(fine(0, 5), state(1, 4), unknown(-1, 6, 32, -32, LOW, HIGH));
    }

    private static Arg[] hands() {
        return args(fine(0, 3), unknown(-1, 4, 32, -32, LOW, HIGH));
    }

    private static Arg[] sets() {
        return args(fine(1, 32, 41), state(2, 16, 43, 63), outside(0, 64, 65, -1, LOW, LOW + 1, HIGH));
    }

    private static Text[] pads(String fine, String... wrong) {
        Text[] pads = new Text[wrong.length + 1];
        pads[0] = new Text(fine, 0);
        for (int i = 0; i < wrong.length; i++) {
            pads[i + 1] = new Text(wrong[i], LastMap.NO);
        }
        return pads;
    }

    // ---- how it is called

    private static int first(int... refusals) {
        for (int refusal : ORDER) {
            for (int one : refusals) {
                if (one == refusal) {
                    return refusal;
                }
            }
        }
        return 0;
    }

    private static boolean isRefusal(int answer) {
        return answer < 0 && answer != LastMap.NONE;
    }

    /** A call that only asks. */
    private static void asked(String call, Text pad, int refusal, ToIntFunction<LastMap> answer) {
        called(call, () -> made(pad.signs), refusal, answer, true);
    }

    /** A call that changes something, when it is not refused. */
    private static void done(String call, Text pad, int refusal, ToIntFunction<LastMap> answer) {
        called(call, () -> made(pad.signs), refusal, answer, false);
    }

    private static void called(String call, Supplier<LastMap> make, int refusal, ToIntFunction<LastMap> answer,
                               boolean onlyAsks) {
        LastMap x = make.get();
        int got = answer.applyAsInt(x);
        if (refusal != 0) {
            DUE.is(call, got, refusal);
        } else {
            DUE.holds(call + " is not refused, but " + got, !isRefusal(got));
        }
        if (refusal != 0 || onlyAsks) {
            DUE.same(call + " changes nothing", Witness.of(x), Witness.of(make.get()));
        }
    }

    // ---- the promises

    private static void sites() {
        for (Arg n : args(fine(2, 6), outside(1, 7, 0, -1, 34, LOW, HIGH))) {
            done("2: sites(" + n + ")", ANY, n.refusal, x -> x.sites(n.value));
        }
    }

    private static void say() {
        Text[] pads = {ANY, new Text("", 0), new Text("s0c1a-".repeat(6) + "abc", 0),
            new Text("s0c1a-".repeat(6) + "abcd", LastMap.FULL)};
        for (Text pad : pads) {
            for (Arg sign : args(fine(33, 97, 126), outside(32, 127, 0, -1, 128 + 97, 65536 + 97, LOW, HIGH))) {
                done("3: say(" + sign + ") behind " + pad, pad, first(sign.refusal, pad.refusal),
                    x -> x.say(sign.value));
            }
        }
    }

    private static void fault() {
        for (String text : new String[] {"", "ab-", "ab", "s0o2", "?-a", "x"}) {
            for (Arg how : args(fine(0, 1, 2), outside(-1, 3, LOW, HIGH))) {
                asked("5: fault(" + how + ") of " + text, new Text(text, 0), how.refusal, x -> x.fault(how.value));
            }
        }
    }

    private static void map() {
        for (Text pad : pads("c-d", "", "c-", "c-da", "c?d", "s0")) {
            for (Arg map : mapsToTell()) {
                done("6: map(" + map + ") of " + pad, pad, first(map.refusal, pad.refusal), x -> x.map(map.value));
            }
        }
    }

    private static void at() {
        for (Arg map : mapsTold()) {
            for (Arg site : args(fine(0, 2), unknown(-1, 3, 5, LOW, HIGH))) {
                asked("7: at(" + map + ", " + site + ")", ANY, first(map.refusal, site.refusal),
                    x -> x.at(map.value, site.value));
            }
        }
    }

    private static void hand() {
        for (Arg hand : hands()) {
            for (Arg kinds : args(fine(0, 15), outside(-1, 16, 31, LOW, HIGH))) {
                done("8: hand(" + hand + ", " + kinds + ")", ANY, first(hand.refusal, kinds.refusal),
                    x -> x.hand(hand.value, kinds.value));
            }
        }
    }

    private static void judge() {
        for (Text pad : pads("s0c2a", "s2", "s0c2", "s0o3", "ab-", "s0".repeat(11))) {
            for (Arg map : mapsTold()) {
                asked("9: judge(" + map + ") of " + pad, pad, first(map.refusal, pad.refusal),
                    x -> x.judge(map.value));
            }
        }
    }

    /* The last of the pads have no FAULT, but a SLIP that is none: from abc and from ddd alike. */
    private static void copy() {
        for (Text pad : pads("s0c2a", "s0c", "t2", "ab-", "s0".repeat(11), "c0ac0a", "c2bo2o2", "t0s0")) {
            for (Arg map : mapsToTell()) {
                for (Arg from : args(fine(0), state(1, 4), unknown(-1, 6, 32, -32, LOW, HIGH))) {
                    done("10: copy(" + map + ", " + from + ") by " + pad, pad,
                        first(map.refusal, from.refusal, pad.refusal), x -> x.copy(map.value, from.value));
                }
            }
        }
    }

    private static void far() {
        for (Arg from : mapsTold()) {
            for (Arg to : mapsTold()) {
                for (Arg hand : hands()) {
                    for (int i : new int[] {-1, 0, LOW}) {
                        asked("11: far(" + from + ", " + to + ", " + hand + ", " + i + ")", ANY,
                            first(from.refusal, to.refusal, hand.refusal),
                            x -> x.far(from.value, to.value, hand.value, i));
                    }
                }
            }
        }
    }

    private static void who() {
        for (Arg from : mapsTold()) {
            for (Arg to : mapsTold()) {
                for (Arg k : args(fine(0, 30), outside(-1, 31, LOW, HIGH))) {
                    asked("12: who(" + from + ", " + to + ", " + k + ")", ANY,
                        first(from.refusal, to.refusal, k.refusal), x -> x.who(from.value, to.value, k.value));
                }
            }
        }
    }

    private static void between() {
        for (Arg from : mapsTold()) {
            for (Arg to : mapsTold()) {
                for (Arg hand : hands()) {
                    for (Arg e : args(fine(1, 9), outside(0, 10, LOW, HIGH))) {
                        asked("13: between(" + from + ", " + to + ", " + hand + ", " + e + ")", ANY,
                            first(from.refusal, to.refusal, hand.refusal, e.refusal),
                            x -> x.between(from.value, to.value, hand.value, e.value));
                    }
                }
            }
        }
    }

    private static void tree() {
        int[] whats = {0, 1, 10, 11, 12, 13, 14, 15, 16, 2, 9, -1, -22, 42, 45, LOW, LOW + 10, HIGH};
        for (Arg set : sets()) {
            for (Arg hand : hands()) {
                for (int what : whats) {
                    boolean ofTheSet = what >= 10 && what <= 15 && (set.value >> what - 10 & 1) == 1;
                    int refusal = what == 0 || what == 1 || ofTheSet ? 0 : LastMap.OUTSIDE;
                    asked("14: tree(" + set + ", " + hand + ", " + what + ")", ANY,
                        first(set.refusal, hand.refusal, refusal), x -> x.tree(set.value, hand.value, what));
                }
            }
        }
    }

    private static void lost() {
        for (Arg set : sets()) {
            for (Arg hand : hands()) {
                for (int i : new int[] {-1, 0, 2, 3, -2, LOW, HIGH}) {
                    asked("15: lost(" + set + ", " + hand + ", " + i + ")", ANY, first(set.refusal, hand.refusal),
                        x -> x.lost(set.value, hand.value, i));
                }
            }
        }
    }

    private static void wished() {
        for (Text pad : pads("?-a", "", "?-", "?-a?", "s0", "?-e")) {
            for (Arg map : mapsTold()) {
                for (Arg hand : hands()) {
                    for (Arg read : args(fine(0, 7), outside(-1, 8, 63, LOW, HIGH))) {
                        asked("16: wished(" + map + ", " + hand + ", " + read + ", -1) of " + pad, pad,
                            first(map.refusal, hand.refusal, read.refusal, pad.refusal),
                            x -> x.wished(map.value, hand.value, read.value, -1));
                        asked("16: wished(" + map + ", " + hand + ", " + read + ", 0) of " + pad, pad,
                            first(map.refusal, hand.refusal, read.refusal, pad.refusal),
                            x -> x.wished(map.value, hand.value, read.value, 0));
                    }
                }
            }
        }
    }

    private static void holds() {
        for (Arg set : sets()) {
            for (Arg site : args(fine(-1, 0, 2), unknown(-2, 3, 5, LOW, HIGH))) {
                asked("17: holds(" + set + ", " + site + ")", ANY, first(set.refusal, site.refusal),
                    x -> x.holds(set.value, site.value));
            }
        }
    }

    private static void spades() {
        for (Arg v : args(fine(1, 6), outside(0, 7, -1, LOW, HIGH))) {
            done("18: spades(" + v + ")", ANY, v.refusal, x -> x.spades(v.value));
        }
    }

    private static void land() {
        for (Arg site : args(fine(0, 2), unknown(-1, 3, 5, 6, LOW, HIGH))) {
            asked("19: land(" + site + ")", ANY, site.refusal, x -> x.land(site.value));
        }
    }

    private static void years() {
        for (Arg map : mapsTold()) {
            asked("20: years(" + map + ")", ANY, map.refusal, x -> x.years(map.value));
        }
    }

    private static void follow() {
        for (Arg map : mapsTold()) {
            for (Arg years : args(fine(0, 9), outside(-1, 10, LOW, HIGH))) {
                done("21: follow(" + map + ", " + years + ")", ANY, first(map.refusal, years.refusal),
                    x -> x.follow(map.value, years.value));
            }
        }
    }

    private static void drawn() {
        Arg[] seeds = args(fine(0, 9999), outside(-1, 10000, LOW, HIGH));
        Arg[] maps = args(fine(0), state(1), unknown(-1, 6));
        Arg[] times = args(fine(0, 60), outside(-1, 61, LOW, HIGH));
        for (Arg seed : seeds) {
            for (Arg map : maps) {
                for (Arg hand : args(fine(0, 2), unknown(-1, 4))) {
                    for (Arg m : times) {
                        for (Arg site : args(fine(-1, 2), unknown(-2, 3, LOW, HIGH))) {
                            asked("22: drawn(" + seed + ", " + map + ", " + hand + ", " + m + ", " + site + ")", ANY,
                                first(seed.refusal, map.refusal, hand.refusal, m.refusal, site.refusal),
                                x -> x.drawn(seed.value, map.value, hand.value, m.value, site.value));
                        }
                    }
                }
            }
        }
    }

    private static void image() {
        for (Arg n : args(fine(0, 1), outside(-1, 2, LOW, HIGH))) {
            done("23: image(" + n + ")", ANY, n.refusal, x -> x.image(n.value));
        }
    }

    private static void restore() {
        for (Arg n : args(fine(0), state(1), outside(-1, 2, LOW, HIGH))) {
            done("24: restore(" + n + ")", ANY, n.refusal, x -> x.restore(n.value));
        }
    }

    private static void told() {
        int[] not = {-1, 4, 5, 9, 14, -22, 42, LOW, LOW + 10, HIGH};
        for (Arg what : args(fine(0, 1, 2, 3, 10, 11, 12, 13), outside(not))) {
            asked("25: told(" + what + ")", ANY, what.refusal, x -> x.told(what.value));
        }
    }
}
