/** Promises 37 to 41: sheets, what is read of them, the machine's faults, counts. */
public final class SheetTest {
    private static final Due due = new Due("SheetTest");

    public static void main(String[] args) {
        sheets();
        newRowsAreOfZeros();
        laying();
        lowestBits();
        reading();
        tearing();
        refusedByAdd();
        nothingToRead();
        counting();
        due.close();
    }

    private static void sheets() {
        EmberSpuds fire = new EmberSpuds();
        int[][] bad = {{-1, 0, 1}, {4, 0, 1}, {0, -1, 1}, {0, 3, 1}, {0, 0, 41}, {4, 0, -1}, {0, 3, -1}};
        for (int[] b : bad) {
            due.is("a bad sheet", fire.sheet(b[0], b[1], b[2]), -1);
        }
        due.is("sheet(0, 0, -1)", fire.sheet(0, 0, -1), -14);
        due.is("sheet(0, 0, -2147483648)", fire.sheet(0, 0, Integer.MIN_VALUE), -14);
        due.is("there is nothing", fire.count(7), -4);
        due.is("sheet(0, 0, 0)", fire.sheet(0, 0, 0), 1);
        due.is("count(7)", fire.count(7), 0);
        due.is("sheet(0, 2, 40)", fire.sheet(0, 2, 40), 1);
        due.is("count(7)", fire.count(7), 40);
        due.is("sheet(0, 1, -1)", fire.sheet(0, 1, -1), -14);
        due.is("the row stays", fire.count(7), 40);
        due.is("sheet(3, 1, 2)", fire.sheet(3, 1, 2), 1);
        due.is("count(7)", fire.count(7), 40);
    }

    private static void newRowsAreOfZeros() {
        EmberSpuds fire = new EmberSpuds();
        fire.sheet(0, 0, 40);
        for (int i = 0; i < 40; i++) {
            fire.lay(0, i, 2);
        }
        fire.sheet(0, 0, 40);
        for (int i = 0; i < 20; i++) {
            due.is("a new row at " + 2 * i, fire.read(0, 0, 2 * i, 1), -20);
            fire.lay(0, 2 * i, 1);
        }
        due.is("wraps of 0", fire.read(0, 0, 28, 6), 6);
        for (int p = 0; p < 6; p++) {
            due.is("spud(" + p + ", 1)", fire.spud(p, 1), 0);
        }
    }

    private static void laying() {
        EmberSpuds fire = new EmberSpuds();
        due.is("lay(-1, 0, 0)", fire.lay(-1, 0, 0), -1);
        due.is("lay(4, 0, 0)", fire.lay(4, 0, 0), -1);
        due.is("lay(2, -1, 0) of nothing", fire.lay(2, -1, 0), -11);
        fire.sheet(2, 0, 3);
        due.is("lay(2, 2, 0)", fire.lay(2, 2, 0), 1);
        due.is("lay(2, 3, 0)", fire.lay(2, 3, 0), -12);
        due.is("lay(2, -1, 0)", fire.lay(2, -1, 0), -12);
        fire.sheet(2, 0, 0);
        due.is("lay(2, 0, 0) of none", fire.lay(2, 0, 0), -12);
        fire.sheet(2, 0, 40);
        due.is("lay(2, 39, 0)", fire.lay(2, 39, 0), 1);
        due.is("lay(2, 40, 0)", fire.lay(2, 40, 0), -12);
        due.is("no fault of read()", fire.torn(), 0);
    }

    private static void laid(EmberSpuds fire, int k, int... values) {
        for (int i = 0; i < values.length; i++) {
            due.is("lay(" + k + ", " + i + ", " + values[i] + ")", fire.lay(k, i, values[i]), 1);
        }
    }

    private static void lowestBits() {
        EmberSpuds fire = new EmberSpuds();
        fire.sheet(0, 0, 2);
        laid(fire, 0, 256 + 7, -256 + 2);
        due.is("bytes", fire.read(0, 0, 0, 1), 1);
        laid(fire, 0, 128 + 7, 0);
        due.is("a byte below 0", fire.read(0, 0, 0, 1), -20);
        fire.sheet(1, 1, 2);
        laid(fire, 1, 65536 + 8, 65537);
        due.is("shorts", fire.read(1, 1, 0, 1), 1);
        laid(fire, 1, 256 + 7, 0);
        due.is("a short above 255", fire.read(1, 1, 0, 1), -20);
        fire.sheet(2, 2, 2);
        laid(fire, 2, 65536 + 8, 0);
        due.is("an int above 65535", fire.read(2, 2, 0, 1), -20);
        laid(fire, 2, 9, 1);
        due.is("ints", fire.read(2, 2, 0, 1), 1);
        int[][] came = {{7, 2}, {8, 1}, {9, 1}};
        for (int p = 0; p < came.length; p++) {
            due.is("size of " + p, fire.spud(p, 0), came[p][0]);
            due.is("wrap of " + p, fire.spud(p, 1), came[p][1]);
        }
    }

    private static void reading() {
        EmberSpuds fire = Due.told("heat 1 50 50 50;spud 1 bare 3;");
        fire.sheet(1, 2, 7);
        laid(fire, 1, 0, 3, 2, 4, 1, 5, 0);
        due.is("read(1, 2, 1, 3)", fire.read(1, 2, 1, 3), 3);
        due.is("torn()", fire.torn(), 0);
        due.is("rule(5)", fire.rule(5), 4);
        for (int i = 0; i < 3; i++) {
            int[] raw = {3 + i, 2 - i, -4, 0, 0, 0, 0, 0, 0, -4};
            for (int what = 0; what < raw.length; what++) {
                due.is("spud(" + (1 + i) + ", " + what + ")", fire.spud(1 + i, what), raw[what]);
            }
        }
        int[][] bad = {{-1, 2, 1, 1}, {4, 2, 1, 1}, {1, -1, 1, 1}, {1, 3, 1, 1}, {1, 2, 1, -1}, {1, 2, 1, 14}};
        for (int[] b : bad) {
            due.is("a bad read", fire.read(b[0], b[1], b[2], b[3]), -1);
        }
        due.is("rule(5)", fire.rule(5), 4);
    }

    private static void tears(EmberSpuds fire, int k, int lane, int f, int n, int came, int fault) {
        String call = "read(" + k + ", " + lane + ", " + f + ", " + n + ")";
        int before = fire.rule(5);
        due.is(call, fire.read(k, lane, f, n), came);
        due.is("torn() of " + call, fire.torn(), fault);
        due.is("rule(5) behind " + call, fire.rule(5), before + came);
    }

    private static void tearing() {
        EmberSpuds fire = new EmberSpuds();
        fire.sheet(0, 0, 5);
        laid(fire, 0, 1, 0, 2, 1, 3);
        tears(fire, 1, 2, 0, 1, 0, 1);
        tears(fire, 1, 0, -1, 13, 0, 1);
        tears(fire, 0, 1, 0, 1, 0, 3);
        tears(fire, 0, 2, 9, 13, 0, 3);
        tears(fire, 0, 0, -1, 1, 0, 2);
        tears(fire, 0, 0, 5, 1, 0, 2);
        tears(fire, 0, 0, 4, 1, 0, 2);
        tears(fire, 0, 0, Integer.MAX_VALUE, 2, 0, 2);
        tears(fire, 0, 0, Integer.MIN_VALUE, 13, 0, 2);
        tears(fire, 0, 0, 2, 2, 1, 2);
        tears(fire, 0, 0, 0, 13, 2, 2);
        due.is("spud(0, 0)", fire.spud(0, 0), 2);
        due.is("spud(1, 0)", fire.spud(1, 0), 1);
        due.is("spud(2, 1)", fire.spud(2, 1), 1);
        tears(fire, 0, 0, 0, 1, 1, 0);
        fire.sheet(0, 0, 0);
        tears(fire, 0, 0, 0, 1, 0, 2);
    }

    private static void refusedByAdd() {
        EmberSpuds fire = new EmberSpuds();
        fire.sheet(0, 0, 40);
        for (int i = 0; i < 20; i++) {
            fire.lay(0, 2 * i, 1 + i % 9);
        }
        tears(fire, 1, 0, 0, 1, 0, 1);
        due.is("the 7th", fire.read(0, 0, 0, 7), -26);
        due.is("none came", fire.rule(5), 0);
        due.is("it came to no end", fire.torn(), 1);
        due.is("6 of 20", fire.read(0, 0, 0, 6), 6);
        due.is("torn()", fire.torn(), 0);
        due.is("one more", fire.read(0, 0, 0, 13), -20);
        due.is("six", fire.rule(5), 6);
        EmberSpuds bad = new EmberSpuds();
        bad.sheet(0, 0, 6);
        laid(bad, 0, 1, 0, 2, 3, 0, 0);
        due.is("a bad wrap", bad.read(0, 0, 0, 13), -21);
        due.is("a bad one at once", bad.read(0, 0, 4, 1), -20);
        due.is("ahead of a fault", bad.read(0, 0, 2, 13), -20);
        due.is("none came", bad.rule(5), 0);
        due.is("torn() stays", bad.torn(), 0);
        due.is("a fault ahead of a bad one", bad.read(0, 1, 2, 13), 0);
        due.is("torn()", bad.torn(), 3);
        due.is("a bad call", bad.read(0, 0, 0, 14), -1);
        due.is("torn() stays", bad.torn(), 3);
    }

    /** A read() of no potato asks for no cell: no fault, and that of the read() before is gone. */
    private static void nothingToRead() {
        int[] starts = {0, 3, 4, 99, -1, Integer.MAX_VALUE, Integer.MIN_VALUE};
        for (int lane = 0; lane < 3; lane++) {
            for (int asLane = 0; asLane < 3; asLane++) {
                EmberSpuds fire = new EmberSpuds();
                fire.sheet(0, lane, 4);
                fire.sheet(1, lane, 0);
                for (int f : starts) {
                    tears(fire, 0, (lane + 1) % 3, f, 1, 0, 3);
                    tears(fire, 0, asLane, f, 0, 0, 0);
                    tears(fire, 2, asLane, f, 1, 0, 1);
                    tears(fire, 1, asLane, f, 0, 0, 0);
                    tears(fire, 1, lane, f, 1, 0, 2);
                    tears(fire, 2, asLane, f, 0, 0, 0);
                }
            }
        }
    }

    private static void counting() {
        EmberSpuds fire = Due.told("fire 3 0 0;heat 1 80 40 16;heat 2 1 2 3;"
                + "spud 1 bare 3;spud 2 bare 4;out 1 bare;spud 9 bare 5;out 3 clay;");
        fire.go(4);
        fire.feel(1, 1, 1);
        fire.keep(1);
        fire.feed(65);
        fire.feed(66);
        fire.sheet(0, 1, 13);
        int[] counts = {2, 1, 1, 2, 1, 1, 2, 13, 142};
        for (int what = 0; what < counts.length; what++) {
            due.is("count(" + what + ")", fire.count(what), counts[what]);
        }
        due.is("count(9)", fire.count(9), -1);
        due.is("count(-1)", fire.count(-1), -1);
    }
}
