import java.util.function.Supplier;
import java.util.function.ToLongFunction;

/**
 * One sentence of the document after another, each tried at its edge, just inside and just past it.
 * A call that must change nothing is made on one of two objects that were made in the same way, and
 * both are asked for all that can be seen of them.
 */
final class Edge {
    private final Due due;
    private String sentence = "";

    Edge(String test) {
        due = new Due(test);
    }

    /** The sentence that is tried from here on, with the number of its promise. */
    void sentence(String words) {
        sentence = words;
    }

    void is(String call, long got, long want) {
        due.is("[" + sentence + "] " + call, got, want);
    }

    /** The call answers what is due and leaves all as it was: it was refused, or only asked. */
    void leaves(String call, Supplier<EmberSpuds> made, ToLongFunction<EmberSpuds> asked, long want) {
        EmberSpuds called = made.get();
        is(call, asked.applyAsLong(called), want);
        due.holds("[" + sentence + "] " + call + " changes nothing", whole(called).equals(whole(made.get())));
    }

    void close() {
        due.close();
    }

    /** Told, baked, raked, felt, kept, with bytes on the tape, rows on the sheets and both faults met. */
    static EmberSpuds rich() {
        EmberSpuds fire = Due.told("fire 4 2 3;heat 1 80 60 40;wood 0 99 3;wood 2 7 9;spud 3 bare 3;out 5 clay;"
                + "spud 2 foil 7;memo 0 1;memo 2 3;");
        fire.keep(1);
        fire.go(1);
        fire.rake(5, true);
        fire.feel(1, 4, 56);
        fire.feel(3, 0, 0);
        fire.keep(0);
        fire.turn(0);
        fire.go(1);
        Due.tell(fire, "fire 2");
        for (int lane = 0; lane < 3; lane++) {
            fire.sheet(lane, lane, 5);
            for (int i = 0; i < 5; i++) {
                fire.lay(lane, i, 1 + (i + lane) % 2);
            }
        }
        fire.read(0, 1, 0, 1);
        Due.feedAll(fire, "fire 5 6 7;");
        return fire;
    }

    /** All that can be seen of an object, some of it by using it up: it is of no use behind this. */
    static String whole(EmberSpuds fire) {
        StringBuilder all = new StringBuilder();
        seen(fire, all);
        felt(fire, all);
        for (int k = 0; k < 2; k++) {
            all.append(" image ").append(fire.back(k));
            few(fire, all);
        }
        all.append(" text ").append(fire.text()).append(' ').append(fire.fault());
        few(fire, all);
        for (int k = 0; k < 4; k++) {
            row(fire, k, all);
        }
        return all.toString();
    }

    private static void seen(EmberSpuds fire, StringBuilder all) {
        for (int what = 0; what < 7; what++) {
            all.append(fire.rule(what)).append(' ');
        }
        for (int x = 0; x < 3 * fire.rule(0); x++) {
            all.append(fire.heat(x)).append(' ');
        }
        for (int i = 0; i < fire.rule(3); i++) {
            for (int what = 0; what < 3; what++) {
                all.append(fire.wood(i, what)).append(' ');
            }
        }
        for (int p = 0; p < fire.rule(5); p++) {
            for (int what = 0; what < 10; what++) {
                all.append(fire.spud(p, what)).append(' ');
            }
        }
        for (int what = 4; what < 9; what++) {
            all.append(fire.count(what)).append(' ');
        }
        all.append(fire.fault()).append(' ').append(fire.torn());
    }

    private static void felt(EmberSpuds fire, StringBuilder all) {
        for (int n = fire.count(4); n >= 0; n--) {
            fire.forget(n);
            all.append(" fits ").append(fire.fits(0)).append(' ').append(fire.fits(1)).append(' ').append(fire.fits(2));
        }
    }

    private static void few(EmberSpuds fire, StringBuilder all) {
        for (int what = 0; what < 7; what++) {
            all.append(' ').append(fire.rule(what));
        }
        for (int what = 0; what < 5; what++) {
            all.append(' ').append(fire.count(what));
        }
        all.append(' ').append(fire.count(8)).append(' ').append(fire.fits(0)).append(' ').append(fire.fits(1));
        for (int p = 0; p < fire.rule(5); p++) {
            for (int what = 2; what < 6; what++) {
                all.append(' ').append(fire.spud(p, what));
            }
        }
    }

    /** The potatoes that a row would give, its lane (the one that is not torn by CAST), its length. */
    private static void row(EmberSpuds fire, int k, StringBuilder all) {
        all.append(" row");
        for (int lane = 0; lane < 3; lane++) {
            fire.text();
            all.append(' ').append(fire.read(k, lane, 0, 6)).append(' ').append(fire.torn());
            for (int p = 0; p < fire.rule(5); p++) {
                all.append(' ').append(fire.spud(p, 0)).append(' ').append(fire.spud(p, 1));
            }
        }
        int length = 0;
        while (length <= 40 && fire.lay(k, length, 0) == 1) {
            length++;
        }
        all.append(" of ").append(length);
    }
}
