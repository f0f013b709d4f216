import java.util.function.Supplier;

/** Promises 35 to 41, images and sheets, and an object's 512 calls: each sentence at its edge. */
public final class EdgeSheetTest {
    private static final Edge edge = new Edge("EdgeSheetTest");

    public static void main(String[] args) {
        keeping();
        goingBack();
        backRefused();
        whatAnImageIs();
        whatAnImageIsNot();
        aNewRow();
        aRowOfCells();
        sizeBelowZero();
        laying();
        layingLowestBits();
        layingRefused();
        readingNone();
        readingWhole();
        readingTorn();
        readingByEachLane();
        readingRefusedByAdd();
        readingTheFirstMet();
        readingBad();
        tornOfTheLatest();
        counting();
        theLastCall();
        edge.close();
    }

    private static void keeping() {
        edge.sentence("35 IMAGE k (0, 1) ..: whether there was one (1, 0). BAD");
        for (int k = 0; k < 2; k++) {
            EmberSpuds fire = new EmberSpuds();
            edge.is("keep(" + k + ")", fire.keep(k), 0);
            edge.is("keep(" + k + ") again", fire.keep(k), 1);
            edge.is("the other one", fire.keep(1 - k), 0);
            edge.is("count(5)", fire.count(5), 2);
        }
        edge.leaves("keep(2)", Edge::rich, f -> f.keep(2), -1);
        edge.leaves("keep(-1)", Edge::rich, f -> f.keep(-1), -1);
        edge.leaves("keep(2) of none", EmberSpuds::new, f -> f.keep(2), -1);
        EmberSpuds fire = new EmberSpuds();
        fire.keep(0);
        fire.go(3);
        fire.keep(0);
        edge.is("the later one stands", fire.back(0), 3);
    }

    private static void goingBack() {
        edge.sentence("36 All is as IMAGE k: ROUND");
        EmberSpuds fire = new EmberSpuds();
        fire.keep(0);
        edge.is("back(0) at once", fire.back(0), 0);
        for (int i = 0; i < 16; i++) {
            fire.go(60);
        }
        fire.go(39);
        fire.keep(1);
        edge.is("back(0)", fire.back(0), 0);
        edge.is("rule(4)", fire.rule(4), 0);
        edge.is("there is room for rounds", fire.go(60), 0);
        edge.is("back(1)", fire.back(1), 999);
        edge.is("there is none", fire.go(1), -3);
        edge.is("an image stays", fire.back(1), 999);
        edge.is("count(5)", fire.count(5), 2);
    }

    private static void backRefused() {
        edge.sentence("36 BAD; STATE: there is none");
        edge.leaves("back(0)", EmberSpuds::new, f -> f.back(0), -2);
        edge.leaves("back(1)", EmberSpuds::new, f -> f.back(1), -2);
        edge.leaves("back(2): BAD ahead of STATE", EmberSpuds::new, f -> f.back(2), -1);
        edge.leaves("back(-1): BAD ahead of STATE", EmberSpuds::new, f -> f.back(-1), -1);
        Supplier<EmberSpuds> one = () -> {
            EmberSpuds fire = Due.told("heat 1 9 9 9;spud 1 bare 4;");
            fire.keep(1);
            fire.go(1);
            return fire;
        };
        edge.leaves("back(0), the other one is there", one, f -> f.back(0), -2);
        edge.leaves("back(2)", Edge::rich, f -> f.back(2), -1);
        edge.leaves("back(-1)", Edge::rich, f -> f.back(-1), -1);
        EmberSpuds fire = one.get();
        fire.text();
        edge.is("a text: IMAGES are gone", fire.back(1), -2);
    }

    /** All that an image is, changed one by one: back() takes each of them back. */
    private static void whatAnImageIs() {
        edge.sentence("35 HEAT, FALL, RIM, WOOD, ROUND, POTATOES (all of them), RAKED, FELT");
        Changes[] all = {f -> f.fan(11, 99), f -> f.ash(0, 9), f -> f.ash(1, 9), f -> f.stoke(3, 99, 9),
            f -> f.go(1), f -> f.go(60), f -> f.add(9, 2), f -> f.dig(0, 11), f -> f.dig(0, -4), f -> f.turn(0),
            f -> f.wrap(0, 2), f -> f.memo(0, -4), f -> f.memo(1, 3), f -> f.rake(5, false), f -> f.rake(11, true),
            f -> f.forget(0), f -> f.forget(1), f -> f.feel(20, 11, 99), f -> f.back(1), f -> f.read(0, 0, 0, 2)};
        for (int i = 0; i < all.length; i++) {
            EmberSpuds changed = Edge.rich();
            EmberSpuds same = Edge.rich();
            changed.keep(0);
            same.keep(0);
            all[i].make(changed);
            changed.back(0);
            same.back(0);
            // A read() is told by torn() too, which is no part of an image.
            changed.read(0, 1, 0, 1);
            same.read(0, 1, 0, 1);
            edge.is("change " + i + " is taken back", Edge.whole(changed).equals(Edge.whole(same)) ? 1 : 0, 1);
        }
    }

    private interface Changes {
        void make(EmberSpuds fire);
    }

    private static void whatAnImageIsNot() {
        edge.sentence("36 what is no part of an IMAGE stays: THE TAPE, both faults, the SHEETS, the other IMAGE");
        EmberSpuds fire = Due.told("spud 1 bare 0;");
        fire.keep(0);
        fire.go(2);
        fire.keep(1);
        Due.tell(fire, "?");
        fire.sheet(0, 2, 7);
        fire.read(0, 1, 0, 1);
        Due.feedAll(fire, "out 1 bare;");
        edge.is("back(0)", fire.back(0), 0);
        edge.is("fault()", fire.fault(), 1);
        edge.is("torn()", fire.torn(), 3);
        edge.is("count(6)", fire.count(6), 11);
        edge.is("count(7)", fire.count(7), 7);
        edge.is("back(1)", fire.back(1), 2);
    }

    private static void aNewRow() {
        edge.sentence("37 A SHEET is a new row of CELLS 0: 1. BAD: also n above 40");
        for (int k = 0; k < 4; k++) {
            for (int lane = 0; lane < 3; lane++) {
                EmberSpuds fire = new EmberSpuds();
                edge.is("40 CELLS", fire.sheet(k, lane, 40), 1);
                edge.is("the last", fire.lay(k, 39, 1), 1);
                edge.is("behind it", fire.lay(k, 40, 1), -12);
                edge.is("no CELLS", fire.sheet(k, lane, 0), 1);
                edge.is("the first", fire.lay(k, 0, 1), -12);
                edge.is("1 CELL", fire.sheet(k, lane, 1), 1);
                edge.is("the first", fire.lay(k, 0, 1), 1);
                edge.is("the second", fire.lay(k, 1, 1), -12);
            }
        }
        edge.leaves("41 CELLS", Edge::rich, f -> f.sheet(0, 0, 41), -1);
        edge.leaves("SHEET 4", Edge::rich, f -> f.sheet(4, 0, 5), -1);
        edge.leaves("SHEET -1", Edge::rich, f -> f.sheet(-1, 0, 5), -1);
        edge.leaves("lane 3", Edge::rich, f -> f.sheet(0, 3, 5), -1);
        edge.leaves("lane -1", Edge::rich, f -> f.sheet(0, -1, 5), -1);
        edge.leaves("41 CELLS of nothing", EmberSpuds::new, f -> f.sheet(0, 0, 41), -1);
    }

    private static void aRowOfCells() {
        edge.sentence("37 a new row of CELLS 0, whatever the one before had");
        EmberSpuds fire = new EmberSpuds();
        fire.sheet(0, 2, 40);
        for (int i = 0; i < 40; i++) {
            fire.lay(0, i, 1);
        }
        edge.is("of ones", fire.read(0, 2, 38, 1), 1);
        fire.sheet(0, 2, 40);
        edge.is("the first is 0", fire.read(0, 2, 0, 1), -20);
        edge.is("the last but one is 0", fire.read(0, 2, 38, 1), -20);
        fire.lay(0, 38, 1);
        edge.is("the last is 0", fire.read(0, 2, 38, 1), 1);
        edge.is("bare", fire.spud(1, 1), 0);
        edge.sentence("37 each SHEET is a row of its own");
        fire.sheet(1, 2, 2);
        fire.sheet(2, 2, 2);
        fire.lay(1, 0, 7);
        edge.is("the other row is 0", fire.read(2, 2, 0, 1), -20);
        edge.is("the one", fire.read(1, 2, 0, 1), 1);
    }

    private static void sizeBelowZero() {
        edge.sentence("37 -10 - 4: SIZE (below 0)");
        int[] below = {-1, -4, -40, Integer.MIN_VALUE};
        for (int n : below) {
            edge.leaves("sheet(0, 2, " + n + ")", Edge::rich, f -> f.sheet(0, 2, n), -14);
            edge.leaves("sheet(3, 0, " + n + ") of nothing", Edge::rich, f -> f.sheet(3, 0, n), -14);
            edge.leaves("sheet(4, 0, " + n + "): BAD first", Edge::rich, f -> f.sheet(4, 0, n), -1);
            edge.leaves("sheet(0, 3, " + n + "): BAD first", Edge::rich, f -> f.sheet(0, 3, n), -1);
        }
    }

    private static void laying() {
        edge.sentence("38 CELL i of a SHEET becomes v: 1");
        EmberSpuds fire = new EmberSpuds();
        fire.sheet(3, 0, 2);
        edge.is("lay(3, 0, 9)", fire.lay(3, 0, 9), 1);
        edge.is("lay(3, 1, 2)", fire.lay(3, 1, 2), 1);
        edge.is("lay(3, 2, 2)", fire.lay(3, 2, 2), -12);
        edge.is("read", fire.read(3, 0, 0, 1), 1);
        edge.is("SIZE", fire.spud(0, 0), 9);
        edge.is("WRAP", fire.spud(0, 1), 2);
    }

    /** What a cell keeps of v can be seen if it is a size: from 1 to 9. */
    private static void kept(int lane, int v, int size) {
        EmberSpuds fire = new EmberSpuds();
        fire.sheet(0, lane, 2);
        edge.is("lay(0, 0, " + v + ") of lane " + lane, fire.lay(0, 0, v), 1);
        edge.is("read of " + v + ", lane " + lane, fire.read(0, lane, 0, 1), size == 0 ? -20 : 1);
        edge.is("SIZE of " + v + ", lane " + lane, fire.spud(0, 0), size == 0 ? -1 : size);
    }

    private static void layingLowestBits() {
        edge.sentence("38 (its lowest bits): BYTES 8, SHORTS 16, INTS 32");
        int[] all = {1, 9, 0, 10, -1};
        for (int lane = 0; lane < 3; lane++) {
            for (int v : all) {
                kept(lane, v, v == 1 || v == 9 ? v : 0);
            }
        }
        kept(0, 256 + 9, 9);
        kept(0, 255, 0);
        kept(0, 256, 0);
        kept(0, 128 + 5, 0);
        kept(0, -256 + 1, 1);
        kept(0, Integer.MIN_VALUE + 3, 3);
        kept(0, 0x7fffff00 + 4, 4);
        kept(1, 256 + 9, 0);
        kept(1, 65536 + 9, 9);
        kept(1, 32768 + 5, 0);
        kept(1, -65536 + 1, 1);
        kept(1, 65535, 0);
        kept(1, Integer.MIN_VALUE + 3, 3);
        kept(2, 256 + 9, 0);
        kept(2, 65536 + 9, 0);
        kept(2, Integer.MIN_VALUE + 3, 0);
        kept(2, Integer.MAX_VALUE, 0);
    }

    private static void layingRefused() {
        edge.sentence("38 BAD: k; -10 less the FAULT: NULL, INDEX");
        int[] past = {-1, 5, 40, 41, Integer.MIN_VALUE, Integer.MAX_VALUE};
        for (int i : past) {
            edge.leaves("lay(1, " + i + ", 1)", Edge::rich, f -> f.lay(1, i, 1), -12);
            edge.leaves("lay(3, " + i + ", 1): NULL first", Edge::rich, f -> f.lay(3, i, 1), -11);
            edge.leaves("lay(4, " + i + ", 1): BAD first", Edge::rich, f -> f.lay(4, i, 1), -1);
            edge.leaves("lay(-1, " + i + ", 1): BAD first", Edge::rich, f -> f.lay(-1, i, 1), -1);
        }
        edge.leaves("lay(3, 0, 1)", Edge::rich, f -> f.lay(3, 0, 1), -11);
        edge.leaves("lay(4, 0, 1)", Edge::rich, f -> f.lay(4, 0, 1), -1);
    }

    /** A sheet of pairs from cell 0 on, of one lane, on a new object. */
    private static EmberSpuds sheetOf(int lane, int cells, int... values) {
        EmberSpuds fire = new EmberSpuds();
        fire.sheet(0, lane, cells);
        for (int i = 0; i < values.length; i++) {
            fire.lay(0, i, values[i]);
        }
        return fire;
    }

    private static void read(EmberSpuds fire, int lane, int f, int n, int came, int fault) {
        int before = fire.rule(5);
        String call = "read(0, " + lane + ", " + f + ", " + n + ")";
        edge.is(call, fire.read(0, lane, f, n), came);
        edge.is("torn() of " + call, fire.torn(), fault);
        edge.is("rule(5) behind " + call, fire.rule(5), before + came);
    }

    private static void readingNone() {
        edge.sentence("39 n (0 ..) POTATOES: of none no CELL is asked for");
        int[] starts = {0, 1, 2, -1, 40, Integer.MAX_VALUE, Integer.MIN_VALUE};
        for (int f : starts) {
            for (int lane = 0; lane < 3; lane++) {
                read(new EmberSpuds(), lane, f, 0, 0, 0);
                read(sheetOf(0, 2, 0, 0), lane, f, 0, 0, 0);
                read(sheetOf(1, 0), lane, f, 0, 0, 0);
            }
        }
        EmberSpuds six = sheetOf(0, 2, 1, 0);
        for (int i = 0; i < 6; i++) {
            six.add(1, 0);
        }
        read(six, 0, 0, 0, 0, 0);
    }

    private static void readingWhole() {
        edge.sentence("39 two CELLS each from CELL f on, as by add(): how many came");
        read(sheetOf(0, 2, 1, 0), 0, 0, 1, 1, 0);
        read(sheetOf(0, 3, 0, 1, 2), 0, 1, 1, 1, 0);
        EmberSpuds last = new EmberSpuds();
        last.sheet(0, 1, 40);
        last.lay(0, 38, 9);
        last.lay(0, 39, 2);
        read(last, 1, 38, 1, 1, 0);
        edge.is("SIZE", last.spud(0, 0), 9);
        edge.is("WRAP", last.spud(0, 1), 2);
        EmberSpuds six = sheetOf(2, 12, 1, 0, 2, 1, 3, 2, 4, 0, 5, 1, 6, 2);
        read(six, 2, 0, 6, 6, 0);
        for (int p = 0; p < 6; p++) {
            int[] raw = {p + 1, p % 3, -4, 0, 0, 0, 0, 0, 0, -4};
            for (int what = 0; what < raw.length; what++) {
                edge.is("spud(" + p + ", " + what + ")", six.spud(p, what), raw[what]);
            }
        }
        EmberSpuds behind = sheetOf(0, 4, 1, 0, 2, 1);
        behind.add(9, 2);
        read(behind, 0, 2, 1, 1, 0);
        edge.is("behind those that are there", behind.spud(1, 0), 2);
        read(behind, 0, 0, 2, 2, 0);
        edge.is("and once more", behind.spud(2, 0), 1);
    }

    private static void readingTorn() {
        edge.sentence("39 What the machine refuses: those that were whole ahead come");
        read(sheetOf(0, 4, 1, 0, 2, 1), 0, 0, 3, 2, 2);
        read(sheetOf(0, 4, 1, 0, 2, 1), 0, 0, 13, 2, 2);
        read(sheetOf(0, 4, 1, 0, 2, 1), 0, 2, 2, 1, 2);
        read(sheetOf(0, 5, 1, 0, 2, 1, 3), 0, 0, 3, 2, 2);
        read(sheetOf(0, 12, 1, 0, 1, 0, 1, 0, 1, 0, 1, 0, 1, 0), 0, 0, 7, 6, 2);
        edge.sentence("39 INDEX: a potato whose first, whose second CELL there is not");
        read(sheetOf(0, 4, 1, 0, 2, 1), 0, 4, 1, 0, 2);
        read(sheetOf(0, 4, 1, 0, 2, 1), 0, 3, 1, 0, 2);
        read(sheetOf(0, 4, 1, 0, 2, 1), 0, -1, 1, 0, 2);
        read(sheetOf(0, 4, 1, 0, 2, 1), 0, -2, 2, 0, 2);
        read(sheetOf(0, 4, 1, 0, 2, 1), 0, Integer.MAX_VALUE, 13, 0, 2);
        read(sheetOf(0, 4, 1, 0, 2, 1), 0, Integer.MAX_VALUE - 1, 13, 0, 2);
        read(sheetOf(0, 4, 1, 0, 2, 1), 0, Integer.MIN_VALUE, 13, 0, 2);
        read(sheetOf(0, 0), 0, 0, 1, 0, 2);
        read(sheetOf(0, 1, 1), 0, 0, 1, 0, 2);
        edge.sentence("39 one that is not whole is not asked of add()");
        read(sheetOf(0, 1, 0), 0, 0, 1, 0, 2);
        read(sheetOf(0, 3, 1, 0, 99), 0, 0, 2, 1, 2);
        edge.sentence("39 NULL: a SHEET of nothing");
        read(new EmberSpuds(), 0, 0, 1, 0, 1);
        read(new EmberSpuds(), 2, -1, 13, 0, 1);
    }

    private static void readingByEachLane() {
        edge.sentence("39 of a SHEET taken as of a lane; CAST (another lane)");
        for (int lane = 0; lane < 3; lane++) {
            for (int as = 0; as < 3; as++) {
                boolean isSame = lane == as;
                read(sheetOf(lane, 2, 1, 0), as, 0, 1, isSame ? 1 : 0, isSame ? 0 : 3);
                read(sheetOf(lane, 2, 0, 0), as, 2, 1, 0, isSame ? 2 : 3);
                read(sheetOf(lane, 0), as, 0, 13, 0, isSame ? 2 : 3);
                read(sheetOf(lane, 2, 1, 0), as, -1, 1, 0, isSame ? 2 : 3);
            }
        }
        EmberSpuds other = sheetOf(0, 2, 1, 0);
        read(other, 0, 0, 1, 1, 0);
        other.sheet(0, 1, 2);
        read(other, 0, 0, 1, 0, 3);
    }

    private static EmberSpuds holding(int potatoes, int cells, int... values) {
        EmberSpuds fire = sheetOf(0, cells, values);
        for (int i = 0; i < potatoes; i++) {
            fire.add(9, 0);
        }
        return fire;
    }

    private static void readingRefusedByAdd() {
        edge.sentence("39 -20 less i: the i-th, whole, is refused by add() (in whichever way): then none came");
        int[][] sorts = {{0, 0}, {10, 0}, {-1, 0}, {1, 3}, {1, -1}, {0, 3}};
        for (int[] sort : sorts) {
            for (int i = 0; i < 3; i++) {
                int[] row = {1, 0, 1, 0, 1, 0};
                row[2 * i] = sort[0];
                row[2 * i + 1] = sort[1];
                int due = -20 - i;
                edge.leaves("BAD, the " + i + "-th", () -> holding(0, 6, row), f -> f.read(0, 0, 0, 3), due);
                edge.leaves("BAD, the " + i + "-th, beside two", () -> holding(2, 6, row), f -> f.read(0, 0, 0, 3), due);
            }
        }
        int[] ones = {1, 0, 1, 0, 1, 0, 1, 0, 1, 0, 1, 0, 1, 0};
        for (int there = 0; there <= 6; there++) {
            int held = there;
            int room = 6 - there;
            edge.is("as many as there is room for", holding(there, 14, ones).read(0, 0, 0, room), room);
            edge.leaves("FULL, one more", () -> holding(held, 14, ones), f -> f.read(0, 0, 0, room + 1), -20 - room);
            edge.leaves("FULL, 13", () -> holding(held, 14, ones), f -> f.read(0, 0, 0, 13), -20 - room);
        }
    }

    private static void readingTheFirstMet() {
        edge.sentence("39 the first met");
        edge.leaves("add() ahead of INDEX", () -> holding(0, 4, 1, 0, 0, 0), f -> f.read(0, 0, 0, 13), -21);
        edge.leaves("FULL ahead of INDEX", () -> holding(5, 4, 1, 0, 1, 0), f -> f.read(0, 0, 0, 13), -21);
        edge.leaves("FULL ahead of BAD", () -> holding(6, 4, 1, 0, 0, 0), f -> f.read(0, 0, 0, 13), -20);
        read(holding(6, 2, 1, 0), 0, 2, 1, 0, 2);
        read(holding(6, 2, 1, 0), 1, 0, 1, 0, 3);
        read(holding(5, 2, 1, 0), 0, 0, 2, 1, 2);
        read(holding(0, 6, 1, 0, 2, 0, 0, 0), 0, 0, 2, 2, 0);
    }

    private static void readingBad() {
        edge.sentence("39 n (0 to 13); BAD: k, lane, n");
        int[][] bad = {{-1, 0, 0, 1}, {4, 0, 0, 1}, {0, -1, 0, 1}, {0, 3, 0, 1}, {0, 0, 0, -1}, {0, 0, 0, 14},
            {4, 0, 0, 0}, {0, 3, 0, 0}, {3, 0, 0, 14}, {0, 1, 9, 14}};
        for (int[] b : bad) {
            edge.leaves("read(" + b[0] + ", " + b[1] + ", " + b[2] + ", " + b[3] + ")", Edge::rich,
                    f -> f.read(b[0], b[1], b[2], b[3]), -1);
        }
        read(sheetOf(0, 2, 1, 0), 0, 0, 13, 1, 2);
    }

    private static void tornOfTheLatest() {
        edge.sentence("40 The FAULT of the latest read() that came to an end; 0");
        EmberSpuds fire = sheetOf(0, 4, 1, 0, 0, 0);
        edge.is("at first", fire.torn(), 0);
        fire.read(1, 0, 0, 1);
        edge.is("NULL", fire.torn(), 1);
        edge.is("one that is refused by add()", fire.read(0, 0, 0, 2), -21);
        edge.is("came to no end", fire.torn(), 1);
        edge.is("one that is BAD", fire.read(0, 0, 0, 14), -1);
        edge.is("came to no end", fire.torn(), 1);
        fire.lay(1, 0, 0);
        fire.lay(0, 9, 0);
        fire.sheet(0, 0, -1);
        fire.text();
        edge.is("other calls leave it", fire.torn(), 1);
        fire.read(0, 0, 9, 1);
        edge.is("INDEX", fire.torn(), 2);
        fire.read(0, 1, 0, 1);
        edge.is("CAST", fire.torn(), 3);
        fire.read(0, 0, 0, 1);
        edge.is("none", fire.torn(), 0);
        fire.read(0, 1, 0, 1);
        fire.read(0, 1, 0, 0);
        edge.is("none of none", fire.torn(), 0);
    }

    private static void counts(EmberSpuds fire, int... all) {
        for (int what = 0; what < all.length; what++) {
            edge.is("count(" + what + ")", fire.count(what), all[what]);
        }
    }

    private static void counting() {
        edge.sentence("41 How many: of none, of all, CELLS of SHEET 0 (NONE: nothing). BAD");
        counts(new EmberSpuds(), 0, 0, 0, 0, 0, 0, 0, -4, 0);
        edge.leaves("count(9)", Edge::rich, f -> f.count(9), -1);
        edge.leaves("count(-1)", Edge::rich, f -> f.count(-1), -1);
        EmberSpuds all = Due.told("fire 8 0 0;" + "out 1 bare;".repeat(6));
        for (int x = 0; x < 24; x++) {
            all.fan(x, 99);
        }
        for (int i = 0; i < 6; i++) {
            all.feel(0, 0, 0);
        }
        all.keep(0);
        all.keep(1);
        all.sheet(0, 2, 40);
        Due.feedAll(all, " ".repeat(160));
        counts(all, 0, 0, 0, 6, 6, 2, 160, 40, 24 * 99);
        for (int p = 0; p < 6; p++) {
            all.dig(p, p);
        }
        all.go(1);
        counts(all, 6, 0, 6, 0, 6, 2, 160, 40, 24 * 99);
        all.go(3);
        counts(all, 6, 6, 0, 0, 6, 2, 160, 40, 24 * 99);
        all.sheet(0, 1, 0);
        edge.is("no CELLS", all.count(7), 0);
        all.sheet(1, 1, 5);
        edge.is("of SHEET 0 alone", all.count(7), 0);
    }

    private static void theLastCall() {
        edge.sentence("An object is used for at most 512 calls: the 512th is answered too");
        EmberSpuds fire = new EmberSpuds();
        for (int call = 1; call <= 511; call++) {
            fire.fan(call % 9, call % 100);
        }
        edge.is("the 512th", fire.heat(511 % 9), 511 % 100);
    }
}
