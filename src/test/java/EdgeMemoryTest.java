import java.util.function.Supplier;

/** Promises 30 to 34: what is remembered, who gets which, morning, a seed: each sentence at its edge. */
public final class EdgeMemoryTest {
    private static final Edge edge = new Edge("EdgeMemoryTest");

    public static void main(String[] args) {
        liesAmongThree();
        liesAtTheRim();
        liesWhatIsRaked();
        liesNowhere();
        liesRefused();
        nextTheFirst();
        nextOfSix();
        nextNone();
        takesGood();
        takesNotBlack();
        takesAny();
        takesNone();
        morningOfNone();
        morningOfOne();
        morningOfSix();
        driftRounds();
        driftOfOne();
        driftRefused();
        driftWrapsAround();
        edge.close();
    }

    private static Supplier<EmberSpuds> remembered(int cells, int cell, int... raked) {
        return () -> {
            EmberSpuds fire = Due.told("fire " + cells + " 1 1;out 1 bare;");
            fire.memo(0, cell);
            for (int x : raked) {
                fire.rake(x, true);
            }
            return fire;
        };
    }

    private static void lies(Supplier<EmberSpuds> made, int x, long part, long whole) {
        edge.leaves("lies(0, " + x + ", 0)", made, f -> f.lies(0, x, 0), part);
        edge.leaves("lies(0, " + x + ", 1)", made, f -> f.lies(0, x, 1), whole);
    }

    private static void liesAmongThree() {
        edge.sentence("30 of that CELL each as likely as two of those next to it; fractions in lowest terms (0 is 0 by 1)");
        Supplier<EmberSpuds> middle = remembered(5, 2);
        lies(middle, 0, 0, 1);
        lies(middle, 2, 0, 1);
        lies(middle, 3, 1, 12);
        lies(middle, 5, 1, 12);
        lies(middle, 6, 1, 6);
        lies(middle, 8, 1, 6);
        lies(middle, 9, 1, 12);
        lies(middle, 11, 1, 12);
        lies(middle, 12, 0, 1);
        lies(middle, 14, 0, 1);
    }

    private static void liesAtTheRim() {
        edge.sentence("30 in a PLACE of that CELL or of one next to it: at the rim there is but one");
        for (int cells = 3; cells <= 8; cells++) {
            int last = 3 * cells - 1;
            lies(remembered(cells, 0), 0, 2, 9);
            lies(remembered(cells, 0), 5, 1, 9);
            lies(remembered(cells, 0), 6, 0, 1);
            lies(remembered(cells, cells - 1), last, 2, 9);
            lies(remembered(cells, cells - 1), last - 3, 1, 9);
            lies(remembered(cells, cells - 1), last - 6, 0, 1);
        }
        lies(remembered(3, 1), 0, 1, 12);
        lies(remembered(3, 1), 8, 1, 12);
    }

    private static void liesWhatIsRaked() {
        edge.sentence("30 .. that is not RAKED");
        lies(remembered(3, 0, 0), 0, 0, 1);
        lies(remembered(3, 0, 0), 1, 2, 7);
        lies(remembered(3, 0, 3), 0, 1, 4);
        lies(remembered(3, 0, 6, 7, 8), 0, 2, 9);
        lies(remembered(3, 0, 0, 1, 2), 3, 1, 3);
        lies(remembered(3, 0, 0, 1, 2, 3), 4, 1, 2);
        lies(remembered(3, 0, 0, 1, 2, 3, 4), 5, 1, 1);
        lies(remembered(3, 0, 0, 1, 2, 3, 4), 0, 0, 1);
        lies(remembered(3, 0, 1, 2, 3, 4, 5), 0, 1, 1);
        lies(remembered(8, 7, 18, 19, 20, 21, 22), 23, 1, 1);
        EmberSpuds fire = remembered(3, 0, 0, 1, 2).get();
        fire.rake(2, false);
        edge.is("not RAKED any longer", fire.lies(0, 2, 0), 2);
        edge.is("of 5", fire.lies(0, 2, 1), 5);
        edge.sentence("30 (whatever is so in truth)");
        fire.dig(0, 8);
        edge.is("it lies elsewhere in truth", fire.lies(0, 8, 0), 0);
        edge.is("it lies elsewhere in truth", fire.lies(0, 2, 0), 2);
    }

    private static void liesNowhere() {
        edge.sentence("30 NONE: it lies nowhere");
        Supplier<EmberSpuds> rim = remembered(4, 0, 0, 1, 2, 3, 4, 5);
        for (int x = 0; x < 12; x += 11) {
            int place = x;
            edge.leaves("lies(0, " + x + ", 0)", rim, f -> f.lies(0, place, 0), -4);
            edge.leaves("lies(0, " + x + ", 1)", rim, f -> f.lies(0, place, 1), -4);
        }
        edge.leaves("all nine are raked", remembered(3, 1, 0, 1, 2, 3, 4, 5, 6, 7, 8), f -> f.lies(0, 0, 0), -4);
        lies(remembered(3, 1, 0, 1, 2, 3, 4, 5, 6, 7), 8, 1, 1);
    }

    private static void liesRefused() {
        edge.sentence("30 BAD; STATE: nothing is REMEMBERED; NONE: the first that fits");
        Supplier<EmberSpuds> nothing = () -> Due.told("spud 1 bare 0;");
        edge.leaves("lies(0, 0, 0)", nothing, f -> f.lies(0, 0, 0), -2);
        edge.leaves("lies(0, 0, 1)", nothing, f -> f.lies(0, 0, 1), -2);
        edge.leaves("lies(0, 0, 2): BAD ahead of STATE", nothing, f -> f.lies(0, 0, 2), -1);
        edge.leaves("lies(0, 9, 0): BAD ahead of STATE", nothing, f -> f.lies(0, 9, 0), -1);
        edge.leaves("lies(1, 0, 0)", nothing, f -> f.lies(1, 0, 0), -1);
        Supplier<EmberSpuds> nowhere = remembered(3, 0, 0, 1, 2, 3, 4, 5);
        edge.leaves("lies(0, 9, 0): BAD ahead of NONE", nowhere, f -> f.lies(0, 9, 0), -1);
        edge.leaves("lies(0, 0, -1): BAD ahead of NONE", nowhere, f -> f.lies(0, 0, -1), -1);
        EmberSpuds forgotten = nowhere.get();
        forgotten.memo(0, -4);
        edge.is("STATE ahead of NONE", forgotten.lies(0, 0, 0), -2);
    }

    private static void next(Supplier<EmberSpuds> made, long place, long part, long whole) {
        edge.leaves("next(0)", made, f -> f.next(0), place);
        edge.leaves("next(1)", made, f -> f.next(1), part);
        edge.leaves("next(2)", made, f -> f.next(2), whole);
        edge.leaves("next(3)", made, f -> f.next(3), -1);
        edge.leaves("next(-1)", made, f -> f.next(-1), -1);
    }

    private static void nextTheFirst() {
        edge.sentence("31 The PLACE in which most POTATOES lie in the mean, the first (what 0); that mean (1, 2)");
        next(remembered(3, 0), 0, 2, 9);
        next(remembered(3, 1), 3, 1, 6);
        next(remembered(8, 7), 21, 2, 9);
        next(remembered(8, 7, 21, 22), 23, 2, 5);
        next(remembered(8, 7, 18, 19, 20, 21, 22), 23, 1, 1);
        next(remembered(8, 7, 21, 22, 23), 18, 1, 3);
        edge.sentence("31 (of which a CELL is REMEMBERED)");
        next(() -> Due.told("spud 1 bare 0;out 1 bare;memo 1 2;"), 6, 2, 9);
    }

    private static void nextOfSix() {
        edge.sentence("31 six in one PLACE: a mean above 1");
        Supplier<EmberSpuds> six = () -> {
            EmberSpuds fire = Due.told("out 1 bare;".repeat(6));
            for (int p = 0; p < 6; p++) {
                fire.memo(p, 0);
            }
            return fire;
        };
        next(six, 0, 4, 3);
        next(() -> {
            EmberSpuds fire = six.get();
            for (int x = 0; x < 5; x++) {
                fire.rake(x, true);
            }
            return fire;
        }, 5, 6, 1);
        edge.sentence("31 those that lie nowhere count for nothing");
        next(() -> {
            EmberSpuds fire = Due.told("fire 8 1 1;out 1 bare;out 1 bare;memo 0 0;memo 1 7;");
            for (int x = 0; x < 6; x++) {
                fire.rake(x, true);
            }
            return fire;
        }, 21, 2, 9);
        edge.sentence("31 means of 7 and 12 and 11 in lowest terms");
        next(() -> {
            EmberSpuds fire = Due.told("fire 8 1 1;out 1 bare;out 1 bare;memo 0 0;memo 1 1;");
            fire.rake(0, true);
            return fire;
        }, 1, 29, 77);
    }

    private static void nextNone() {
        edge.sentence("31 NONE: none can lie anywhere; BAD is the first that fits");
        next(EmberSpuds::new, -4, -4, -4);
        next(() -> Due.told("spud 1 bare 0;out 1 bare;"), -4, -4, -4);
        next(remembered(3, 0, 0, 1, 2, 3, 4, 5), -4, -4, -4);
        next(remembered(3, 0, 0, 1, 2, 3, 4), 5, 1, 1);
    }

    private static void takes(Supplier<EmberSpuds> made, int... each) {
        for (int k = 0; k < each.length; k++) {
            int child = k;
            edge.leaves("takes(" + k + ")", made, f -> f.takes(child), each[k]);
        }
        edge.leaves("takes(" + each.length + ")", made, f -> f.takes(each.length), -4);
    }

    private static void takesGood() {
        edge.sentence("32 of those that are GOOD the greatest: of several the first");
        takes(() -> baked("spud 1 bare 0;spud 2 bare 1;spud 1 bare 3;spud 2 bare 4;", 2), 1, 3, 0, 2);
        // Size 3 is not DONE by 20, and has a greater CORE than none: it comes last.
        takes(() -> baked("spud 3 bare 0;spud 1 bare 1;", 2), 1, 0);
    }

    /** So many rounds at a heat of 50 in each of the nine places. */
    private static EmberSpuds baked(String text, int rounds) {
        EmberSpuds fire = Due.told("fire 3 0 0;heat 0 50 50 50;heat 1 50 50 50;heat 2 50 50 50;" + text);
        fire.go(rounds);
        return fire;
    }

    private static void takesNotBlack() {
        edge.sentence("32 else of those that are not BLACK the one with the greatest CORE: of several the first");
        // Behind 2 rounds the CORES are 20, 14, 16.
        takes(() -> baked("spud 9 clay 0;spud 9 foil 1;spud 9 bare 3;spud 9 foil 4;out 1 bare;", 2), 2, 1, 3, 0, 4);
        takes(() -> baked("out 9 bare;out 1 bare;out 5 bare;", 2), 0, 1, 2);
        // Behind 7 rounds the bare SIDE is 42, that of foil 28.
        takes(() -> baked("spud 9 bare 0;spud 9 foil 1;", 7), 1, 0);
        takes(() -> baked("spud 1 bare 0;out 1 bare;", 7), 1, 0);
    }

    private static void takesAny() {
        edge.sentence("32 else any: of several the first");
        takes(() -> baked("spud 1 bare 0;spud 9 bare 1;spud 5 bare 2;", 7), 0, 1, 2);
        edge.sentence("32 GOOD, then not BLACK, then any");
        takes(() -> {
            EmberSpuds fire = baked("spud 1 bare 0;spud 9 clay 1;spud 1 clay 3;", 7);
            fire.add(9, 0);
            return fire;
        }, 2, 1, 3, 0);
    }

    private static void takesNone() {
        edge.sentence("32 BAD (below 0); NONE: none is left");
        takes(EmberSpuds::new);
        takes(() -> Due.told("out 1 bare;"), 0);
        takes(() -> Due.told("out 1 bare;".repeat(6)), 0, 1, 2, 3, 4, 5);
        edge.leaves("takes(-1) of none", EmberSpuds::new, f -> f.takes(-1), -1);
        edge.leaves("takes(MIN) of none", EmberSpuds::new, f -> f.takes(Integer.MIN_VALUE), -1);
        edge.leaves("takes(MAX) of six", () -> Due.told("out 1 bare;".repeat(6)), f -> f.takes(Integer.MAX_VALUE), -4);
    }

    private static void morning(String text, long... all) {
        for (int what = 0; what < 4; what++) {
            int asked = what;
            edge.leaves("morning(" + what + ") of '" + text + "'", () -> Due.told(text), f -> f.morning(asked), all[what]);
        }
        edge.leaves("morning(4)", () -> Due.told(text), f -> f.morning(4), -1);
        edge.leaves("morning(-1)", () -> Due.told(text), f -> f.morning(-1), -1);
    }

    private static void morningOfNone() {
        edge.sentence("33 Each POTATO in a PLACE: of none 0 by 1 is lost, that none is, is 1 by 1");
        morning("", 0, 1, 1, 1);
        morning("out 1 bare;", 0, 1, 1, 1);
        morning("out 1 bare;".repeat(6), 0, 1, 1, 1);
    }

    private static void morningOfOne() {
        edge.sentence("33 by 1, 3, 5 out of ten as it is on top, below, lowest; in lowest terms");
        morning("spud 1 bare 0;", 1, 10, 9, 10);
        morning("spud 1 bare 1;", 3, 10, 7, 10);
        morning("spud 1 bare 2;", 1, 2, 1, 2);
        morning("fire 8 1 1;spud 9 foil 21;", 1, 10, 9, 10);
        morning("fire 8 1 1;spud 9 foil 22;out 1 bare;", 3, 10, 7, 10);
        morning("fire 8 1 1;spud 9 foil 23;", 1, 2, 1, 2);
    }

    private static void morningOfSix() {
        edge.sentence("33 by itself: the mean of those lost; that none is");
        morning("spud 1 bare 0;spud 1 bare 1;spud 1 bare 2;", 9, 10, 63, 200);
        morning("spud 1 bare 2;spud 1 bare 5;", 1, 1, 1, 4);
        morning("fire 6 1 1;spud 1 bare 2;spud 1 bare 5;spud 1 bare 8;spud 1 bare 11;spud 1 bare 14;spud 1 bare 17;",
                3, 1, 1, 64);
        morning("fire 6 1 1;spud 1 bare 0;spud 1 bare 3;spud 1 bare 6;spud 1 bare 9;spud 1 bare 12;spud 1 bare 15;",
                3, 5, 531441, 1000000);
        morning("fire 6 1 1;spud 1 bare 1;spud 1 bare 4;spud 1 bare 7;spud 1 bare 10;spud 1 bare 13;spud 1 bare 16;",
                9, 5, 117649, 1000000);
    }

    private static void driftRounds() {
        edge.sentence("34 By itself, n ROUNDS (1 to 60) by a seed: how many are GOOD then (what 0), BLACK (1). BAD");
        edge.leaves("1 round", Edge::rich, f -> f.drift(1, 1, 0) >= 0 ? 1 : 0, 1);
        edge.leaves("60 rounds", Edge::rich, f -> f.drift(1, 60, 1) >= 0 ? 1 : 0, 1);
        edge.leaves("0 rounds", Edge::rich, f -> f.drift(1, 0, 0), -1);
        edge.leaves("61 rounds", Edge::rich, f -> f.drift(1, 61, 0), -1);
        edge.leaves("-1 rounds", Edge::rich, f -> f.drift(1, -1, 0), -1);
        edge.leaves("what 2", Edge::rich, f -> f.drift(1, 1, 2), -1);
        edge.leaves("what -1", Edge::rich, f -> f.drift(1, 1, -1), -1);
        EmberSpuds late = Due.told("fire 3 0 0;out 1 bare;");
        for (int i = 0; i < 16; i++) {
            late.go(60);
        }
        late.go(39);
        edge.is("60 rounds at 999: none goes", late.drift(1, 60, 0), 0);
        edge.is("rule(4)", late.rule(4), 999);
    }

    /** The seed's bits by long arithmetic, as they come ahead of the first round. */
    private static int deed(int seed) {
        long first = (Integer.toUnsignedLong(seed) * 1103515245L + 12345L) & 0xffffffffL;
        long second = (first * 1103515245L + 12345L) & 0xffffffffL;
        return (int) ((second >> 16 & 0x7fff) % 3);
    }

    private static void driftOfOne() {
        edge.sentence("34 ahead of each: 0 that one is turned, 1 it is taken OUT, if it is DONE, 2 nothing");
        int[] seen = new int[3];
        for (int seed = 0; seed < 30; seed++) {
            int any = seed;
            int deed = deed(seed);
            seen[deed]++;
            // 39 below and 0 above, DONE: turned it is GOOD behind a round, OUT too, else it is BLACK.
            Supplier<EmberSpuds> done = () -> {
                EmberSpuds fire = Due.told("fire 3 0 0;heat 1 8 0 0;spud 3 bare 3;");
                fire.go(39);
                return fire;
            };
            edge.leaves("drift(" + seed + ", 1, 0)", done, f -> f.drift(any, 1, 0), deed == 2 ? 0 : 1);
            edge.leaves("drift(" + seed + ", 1, 1)", done, f -> f.drift(any, 1, 1), deed == 2 ? 1 : 0);
            // With a core of 39 and size 4 it is DONE by the round itself, not ahead of it.
            Supplier<EmberSpuds> raw = () -> {
                EmberSpuds fire = Due.told("fire 3 0 0;heat 1 8 0 0;spud 4 bare 3;");
                fire.go(39);
                return fire;
            };
            edge.leaves("raw drift(" + seed + ", 1, 0)", raw, f -> f.drift(any, 1, 0), deed == 0 ? 1 : 0);
            edge.leaves("raw drift(" + seed + ", 1, 1)", raw, f -> f.drift(any, 1, 1), deed == 0 ? 0 : 1);
        }
        for (int deed = 0; deed < 3; deed++) {
            edge.is("the seeds do " + deed + " too", seen[deed] > 3 ? 1 : 0, 1);
        }
    }

    private static void driftRefused() {
        edge.sentence("34 STATE: there are no POTATOES; BAD is the first that fits");
        edge.leaves("drift(0, 1, 0)", EmberSpuds::new, f -> f.drift(0, 1, 0), -2);
        edge.leaves("drift(0, 60, 1)", EmberSpuds::new, f -> f.drift(0, 60, 1), -2);
        edge.leaves("drift(0, 0, 0)", EmberSpuds::new, f -> f.drift(0, 0, 0), -1);
        edge.leaves("drift(0, 61, 0)", EmberSpuds::new, f -> f.drift(0, 61, 0), -1);
        edge.leaves("drift(0, 1, 2)", EmberSpuds::new, f -> f.drift(0, 1, 2), -1);
        edge.leaves("drift(0, 1, 0) of one that is OUT", () -> Due.told("out 1 bare;"), f -> f.drift(0, 1, 0), 0);
    }

    private static void driftWrapsAround() {
        edge.sentence("34 the seed becomes seed times 1103515245 and 12345 (an int, which wraps around)");
        int[] seeds = {Integer.MAX_VALUE, Integer.MIN_VALUE, -1, -12345, 1 << 30, 0x7fff0000};
        for (int seed : seeds) {
            EmberSpuds fire = Due.told("fire 3 0 0;heat 1 8 0 0;spud 3 bare 3;");
            fire.go(39);
            edge.is("drift(" + seed + ", 1, 0)", fire.drift(seed, 1, 0), deed(seed) == 2 ? 0 : 1);
        }
    }
}
