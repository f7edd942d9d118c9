/**
 * All that can be seen of an object, as one text: two objects whose state differs give two texts. Looking at the
 * pad and at the images uses them up, so the object is not to be used behind it. It takes some 250 calls.
 */
final class Witness {
    private final LastMap x;
    private final StringBuilder seen = new StringBuilder();

    private Witness(LastMap x) {
        this.x = x;
    }

    static String of(LastMap x) {
        Witness witness = new Witness(x);
        witness.papers("now");
        witness.faults();
        witness.pad();
        witness.image(0);
        witness.image(1);
        return witness.seen.toString();
    }

    /** What changes nothing to look at: all but the signs of the pad and the images. */
    static String inPassing(LastMap x) {
        Witness witness = new Witness(x);
        witness.papers("now");
        witness.faults();
        return witness.seen.toString();
    }

    private void note(String what, int answer) {
        seen.append(what).append(' ').append(answer).append('\n');
    }

    /* Only what is told is asked for: a refused call that changed something would hide itself here. */
    private void papers(String when) {
        seen.append(when).append('\n');
        for (int what = 0; what < 4; what++) {
            note("told " + what, x.told(what));
        }
        for (int hand = 0; hand < 4; hand++) {
            note("kinds " + hand, x.told(10 + hand));
        }
        for (int map = 0; map < 6; map++) {
            boolean isTold = (x.told(2) >> map & 1) == 1;
            for (int site = 0; isTold && site < x.told(1); site++) {
                note("at " + map + " " + site, x.at(map, site));
            }
        }
        for (int site = 0; site < x.told(1); site++) {
            note("land " + site, x.land(site));
        }
    }

    private void faults() {
        for (int how = 0; how < 3; how++) {
            note("fault " + how, x.fault(how));
        }
    }

    /* Slips show themselves in a copy, a wish in the row that brings it about, a map (begun or whole) when told. */
    private void pad() {
        int told = Integer.numberOfTrailingZeros(x.told(2));
        if (x.fault(1) == LastMap.NONE && told < 6) {
            note("judge", x.judge(told));
            note("copy", x.copy(5, told));
            note("wipe", x.wipe());
        } else if (x.fault(2) == LastMap.NONE && x.fault(0) != LastMap.NONE && told < 6) {
            x.hand(3, 15);
            for (int i = -1; i <= x.told(1); i++) {
                note("wished " + i, x.wished(told, 3, 0, i));
            }
        } else {
            while (x.told(0) < x.told(1)) {
                x.say('d');
            }
            note("map", x.map(4));
        }
        papers("behind the pad");
    }

    private void image(int n) {
        note("restore " + n, x.restore(n));
        papers("behind image " + n);
    }
}
