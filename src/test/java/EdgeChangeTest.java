import java.util.function.Supplier;

/** Promises 10 to 18, what is changed by hand: each sentence at its edge. */
public final class EdgeChangeTest {
    private static final Edge edge = new Edge("EdgeChangeTest");

    public static void main(String[] args) {
        fanning();
        ashes();
        stoking();
        stokingFull();
        adding();
        addingFull();
        digging();
        diggingWhereAnotherIs();
        turning();
        wrapping();
        remembering();
        raking();
        edge.close();
    }

    private static void fanning() {
        edge.sentence("10 HEAT of a PLACE becomes v: what it was");
        EmberSpuds fire = Due.told("fire 8 1 1;");
        edge.is("fan(0, 99)", fire.fan(0, 99), 0);
        edge.is("fan(0, 0)", fire.fan(0, 0), 99);
        edge.is("fan(0, 0) again", fire.fan(0, 0), 0);
        edge.is("fan(23, 98)", fire.fan(23, 98), 0);
        edge.is("heat(23)", fire.heat(23), 98);
        edge.is("all heat", fire.count(8), 98);
        edge.leaves("fan(24, 0)", () -> Due.told("fire 8 1 1;"), f -> f.fan(24, 0), -1);
        edge.leaves("fan to what it is", Edge::rich, f -> f.fan(0, 0), 0);
        edge.leaves("fan(3, 100)", Edge::rich, f -> f.fan(3, 100), -1);
        edge.leaves("fan(3, -1)", Edge::rich, f -> f.fan(3, -1), -1);
        edge.leaves("fan(12, 50)", Edge::rich, f -> f.fan(12, 50), -1);
        edge.leaves("fan(-4, 50)", Edge::rich, f -> f.fan(-4, 50), -1);
    }

    private static void ashes() {
        edge.sentence("11 FALL (what 0), RIM (1) becomes v: what it was");
        EmberSpuds fire = new EmberSpuds();
        edge.is("ash(0, 0)", fire.ash(0, 0), 1);
        edge.is("ash(0, 9)", fire.ash(0, 9), 0);
        edge.is("ash(1, 9)", fire.ash(1, 9), 1);
        edge.is("ash(1, 0)", fire.ash(1, 0), 9);
        edge.is("rule(1)", fire.rule(1), 9);
        edge.is("rule(2)", fire.rule(2), 0);
        edge.leaves("ash to what it is", Edge::rich, f -> f.ash(0, 2), 2);
        edge.leaves("ash(0, 10)", Edge::rich, f -> f.ash(0, 10), -1);
        edge.leaves("ash(1, 10)", Edge::rich, f -> f.ash(1, 10), -1);
        edge.leaves("ash(1, -1)", Edge::rich, f -> f.ash(1, -1), -1);
        edge.leaves("ash(2, 5)", Edge::rich, f -> f.ash(2, 5), -1);
    }

    private static void stoking() {
        edge.sentence("12 WOOD more: how much there is. BAD");
        for (int cells = 3; cells <= 8; cells++) {
            String text = "fire " + cells + " 1 1;";
            int past = cells;
            EmberSpuds fire = Due.told(text);
            edge.is("the last cell", fire.stoke(cells - 1, 1, 1), 1);
            edge.is("the first cell", fire.stoke(0, 99, 9), 2);
            edge.is("by order: the first", fire.wood(0, 0), cells - 1);
            edge.is("by order: the second", fire.wood(1, 2), 9);
            edge.leaves("the cell behind the last", () -> Due.told(text), f -> f.stoke(past, 1, 1), -1);
        }
        int[][] bad = {{0, 0, 1}, {0, 100, 1}, {0, 1, 0}, {0, 1, 10}, {-1, 1, 1}, {4, 1, 1}, {0, -1, 1}, {0, 1, -1}};
        for (int[] b : bad) {
            edge.leaves("stoke(" + b[0] + ", " + b[1] + ", " + b[2] + ")", Edge::rich,
                    f -> f.stoke(b[0], b[1], b[2]), -1);
        }
    }

    private static EmberSpuds stoked(int times) {
        EmberSpuds fire = new EmberSpuds();
        for (int i = 0; i < times; i++) {
            fire.stoke(1, 10 + i, 1 + i);
        }
        return fire;
    }

    private static void stokingFull() {
        edge.sentence("12 FULL: 6 at most; BAD is the first that fits");
        edge.is("the 6th", stoked(5).stoke(0, 1, 1), 6);
        edge.leaves("the 7th", () -> stoked(6), f -> f.stoke(0, 1, 1), -3);
        edge.leaves("the 7th, of no amount", () -> stoked(6), f -> f.stoke(0, 0, 1), -1);
        edge.leaves("the 7th, on no cell", () -> stoked(6), f -> f.stoke(3, 1, 1), -1);
        edge.leaves("the 7th, in 10 rounds", () -> stoked(6), f -> f.stoke(0, 1, 10), -1);
        EmberSpuds fire = stoked(6);
        fire.go(1);
        edge.is("behind an ember there is room", fire.stoke(2, 99, 9), 6);
        edge.is("it is the last", fire.wood(5, 1), 99);
        edge.is("and no more room", fire.stoke(2, 99, 9), -3);
        edge.is("told by a text", Due.told("wood 0 1 1;".repeat(6)).stoke(0, 1, 1), -3);
    }

    private static void adding() {
        edge.sentence("13 A POTATO more, OUT, raw: how many there are. BAD");
        for (int size = 1; size <= 9; size += 8) {
            for (int wrap = 0; wrap <= 2; wrap++) {
                EmberSpuds fire = Edge.rich();
                edge.is("add(" + size + ", " + wrap + ")", fire.add(size, wrap), 4);
                int[] raw = {size, wrap, -4, 0, 0, 0, 0, 0, 0, -4};
                for (int what = 0; what < raw.length; what++) {
                    edge.is("spud(3, " + what + ")", fire.spud(3, what), raw[what]);
                }
            }
        }
        int[][] bad = {{0, 0}, {10, 0}, {-1, 0}, {1, -1}, {1, 3}, {0, 3}, {1, -4}};
        for (int[] b : bad) {
            edge.leaves("add(" + b[0] + ", " + b[1] + ")", Edge::rich, f -> f.add(b[0], b[1]), -1);
        }
    }

    private static EmberSpuds added(int times) {
        EmberSpuds fire = new EmberSpuds();
        for (int i = 0; i < times; i++) {
            fire.add(1 + i, i % 3);
        }
        return fire;
    }

    private static void addingFull() {
        edge.sentence("13 FULL: 6 at most; BAD is the first that fits");
        edge.is("the 6th", added(5).add(9, 2), 6);
        edge.leaves("the 7th", () -> added(6), f -> f.add(1, 0), -3);
        edge.leaves("the 7th, of size 0", () -> added(6), f -> f.add(0, 0), -1);
        edge.leaves("the 7th, of wrap 3", () -> added(6), f -> f.add(1, 3), -1);
        edge.is("told by a text", Due.told("out 1 bare;".repeat(6)).add(1, 0), -3);
        EmberSpuds fire = added(5);
        fire.keep(0);
        edge.is("the 6th", fire.add(9, 2), 6);
        fire.back(0);
        edge.is("the 6th again", fire.add(8, 1), 6);
    }

    private static void digging() {
        edge.sentence("14 A POTATO is in a PLACE (NONE: OUT): where it was (NONE)");
        EmberSpuds fire = Due.told("fire 8 1 1;out 1 bare;");
        edge.is("from OUT to the first place", fire.dig(0, 0), -4);
        edge.is("to the last place", fire.dig(0, 23), 0);
        edge.is("to where it is", fire.dig(0, 23), 23);
        edge.is("OUT", fire.dig(0, -4), 23);
        edge.is("OUT again", fire.dig(0, -4), -4);
        edge.is("count(3)", fire.count(3), 1);
        for (int cells = 3; cells <= 8; cells++) {
            String text = "fire " + cells + " 1 1;spud 1 bare 0;";
            int past = 3 * cells;
            edge.is("the last of " + cells, Due.told(text).dig(0, past - 1), 0);
            edge.leaves("behind the last of " + cells, () -> Due.told(text), f -> f.dig(0, past), -1);
        }
        edge.sentence("14 as baked as it is: digging bakes and turns nothing");
        EmberSpuds baked = Edge.rich();
        int core = baked.spud(0, 3);
        int below = baked.spud(0, 4);
        baked.dig(0, 11);
        edge.is("CORE", baked.spud(0, 3), core);
        edge.is("the SIDE below", baked.spud(0, 4), below);
        edge.is("REMEMBERED", baked.spud(0, 9), 1);
    }

    private static void diggingWhereAnotherIs() {
        edge.sentence("14 STATE: another one is there; BAD is the first that fits");
        Supplier<EmberSpuds> two = () -> Due.told("spud 1 bare 0;spud 2 clay 8;out 3 foil;");
        edge.leaves("dig(1, 0)", two, f -> f.dig(1, 0), -2);
        edge.leaves("dig(0, 8)", two, f -> f.dig(0, 8), -2);
        edge.leaves("dig(2, 8), from OUT", two, f -> f.dig(2, 8), -2);
        edge.leaves("dig(0, 0), itself", two, f -> f.dig(0, 0), 0);
        edge.leaves("dig(3, 0), no such potato", two, f -> f.dig(3, 0), -1);
        edge.leaves("dig(2, -4): two may be OUT", two, f -> f.dig(2, -4), -4);
        EmberSpuds fire = two.get();
        edge.is("it goes away", fire.dig(0, -4), 0);
        edge.is("then there is room", fire.dig(1, 0), 8);
        edge.is("and where that was", fire.dig(2, 8), -4);
        edge.is("but not there", fire.dig(0, 0), -2);
        edge.is("OUT as another is", fire.dig(1, -4), 0);
        edge.is("count(3)", fire.count(3), 2);
    }

    private static void turning() {
        edge.sentence("15 A POTATO is turned, the other SIDE is below: the SIDE that is below then. BAD");
        EmberSpuds fire = Due.told("fire 3 0 0;heat 1 99 0 0;spud 9 bare 3;out 1 bare;");
        edge.is("raw", fire.turn(0), 0);
        edge.is("raw, back", fire.turn(0), 0);
        fire.go(9);
        edge.is("99 at most above", fire.turn(0), 0);
        edge.is("99 at most below", fire.turn(0), 99);
        edge.is("the SIDE below", fire.spud(0, 4), 99);
        edge.is("the other one", fire.spud(0, 5), 0);
        edge.is("one that is OUT", fire.turn(1), 0);
        edge.leaves("turn(2)", () -> Due.told("out 1 bare;out 1 bare;"), f -> f.turn(2), -1);
        edge.leaves("turn(-1)", Edge::rich, f -> f.turn(-1), -1);
        edge.leaves("turned twice", Edge::rich, f -> {
            f.turn(0);
            return f.turn(0);
        }, Edge.rich().spud(0, 4));
    }

    private static void wrapping() {
        edge.sentence("16 A POTATO has another WRAP: which it had. BAD");
        EmberSpuds fire = Due.told("fire 3 0 0;heat 1 98 0 0;spud 9 bare 3;");
        edge.is("wrap(0, 2)", fire.wrap(0, 2), 0);
        fire.go(1);
        edge.is("CORE by foil", fire.spud(0, 3), 16);
        edge.is("wrap(0, 1)", fire.wrap(0, 1), 2);
        fire.go(1);
        edge.is("CORE by clay", fire.spud(0, 3), 30);
        edge.is("wrap(0, 0)", fire.wrap(0, 0), 1);
        fire.go(1);
        edge.is("CORE bare", fire.spud(0, 3), 49);
        edge.is("the SIDE below", fire.spud(0, 4), 8 + 6 + 12);
        edge.leaves("the same", Edge::rich, f -> f.wrap(1, 1), 1);
        edge.leaves("wrap(1, 3)", Edge::rich, f -> f.wrap(1, 3), -1);
        edge.leaves("wrap(1, -1)", Edge::rich, f -> f.wrap(1, -1), -1);
        edge.leaves("wrap(3, 1)", Edge::rich, f -> f.wrap(3, 1), -1);
    }

    private static void remembering() {
        edge.sentence("17 A CELL is REMEMBERED of a POTATO (NONE: nothing): which was (NONE)");
        for (int cells = 3; cells <= 8; cells++) {
            String text = "fire " + cells + " 1 1;out 1 bare;";
            int past = cells;
            EmberSpuds fire = Due.told(text);
            edge.is("the last", fire.memo(0, cells - 1), -4);
            edge.is("the first", fire.memo(0, 0), cells - 1);
            edge.is("nothing", fire.memo(0, -4), 0);
            edge.is("nothing again", fire.memo(0, -4), -4);
            edge.leaves("behind the last", () -> Due.told(text), f -> f.memo(0, past), -1);
        }
        edge.is("two of one cell", Edge.rich().memo(1, 1), -4);
        edge.leaves("the same", Edge::rich, f -> f.memo(0, 1), 1);
    }

    private static void raking() {
        edge.sentence("18 A PLACE is RAKED, or not: whether it was. BAD");
        EmberSpuds fire = Due.told("fire 8 1 1;");
        for (int x = 0; x < 24; x++) {
            edge.is("rake(" + x + ", true)", fire.rake(x, true), 0);
            edge.is("rake(" + x + ", true) again", fire.rake(x, true), 1);
        }
        edge.is("all bits", fire.rule(6), (1 << 24) - 1);
        edge.is("rake(0, false)", fire.rake(0, false), 1);
        edge.is("rake(23, false)", fire.rake(23, false), 1);
        edge.is("rake(23, false) again", fire.rake(23, false), 0);
        edge.is("bits", fire.rule(6), (1 << 23) - 2);
        edge.leaves("raked already", Edge::rich, f -> f.rake(5, true), 1);
        edge.leaves("not raked", Edge::rich, f -> f.rake(4, false), 0);
        edge.leaves("rake(12, true)", Edge::rich, f -> f.rake(12, true), -1);
        edge.leaves("rake(5 and 32, false)", Edge::rich, f -> f.rake(37, false), -1);
        edge.leaves("rake(-1, true)", Edge::rich, f -> f.rake(-1, true), -1);
        edge.leaves("rake(-27, false)", Edge::rich, f -> f.rake(-27, false), -1);
    }
}
