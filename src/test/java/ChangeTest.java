/** Promises 10 to 18: what is changed by hand. */
public final class ChangeTest {
    private static final Due due = new Due("ChangeTest");

    public static void main(String[] args) {
        fanAndAsh();
        stoking();
        adding();
        addingWhereOneWas();
        digging();
        turningAndWrapping();
        remembering();
        raking();
        due.close();
    }

    private static void fanAndAsh() {
        EmberSpuds fire = new EmberSpuds();
        due.is("fan(0, 99)", fire.fan(0, 99), 0);
        due.is("fan(0, 0)", fire.fan(0, 0), 99);
        due.is("fan(8, 5)", fire.fan(8, 5), 0);
        due.is("heat(8)", fire.heat(8), 5);
        due.is("fan(9, 5)", fire.fan(9, 5), -1);
        due.is("fan(-1, 5)", fire.fan(-1, 5), -1);
        due.is("fan(0, 100)", fire.fan(0, 100), -1);
        due.is("fan(0, -1)", fire.fan(0, -1), -1);
        due.is("count(8)", fire.count(8), 5);
        due.is("ash(0, 9)", fire.ash(0, 9), 1);
        due.is("ash(1, 0)", fire.ash(1, 0), 1);
        due.is("ash(0, 10)", fire.ash(0, 10), -1);
        due.is("ash(0, -1)", fire.ash(0, -1), -1);
        due.is("ash(2, 0)", fire.ash(2, 0), -1);
        due.is("ash(-1, 0)", fire.ash(-1, 0), -1);
        due.is("rule(1)", fire.rule(1), 9);
        due.is("rule(2)", fire.rule(2), 0);
        due.is("ash(0, 3)", fire.ash(0, 3), 9);
    }

    private static void stoking() {
        EmberSpuds fire = new EmberSpuds();
        due.is("stoke(2, 99, 9)", fire.stoke(2, 99, 9), 1);
        int[][] bad = {{3, 1, 1}, {-1, 1, 1}, {0, 0, 1}, {0, 100, 1}, {0, 1, 0}, {0, 1, 10}};
        for (int[] b : bad) {
            due.is("a bad stoke", fire.stoke(b[0], b[1], b[2]), -1);
        }
        for (int i = 2; i <= 6; i++) {
            due.is("stoke(0, 1, 1)", fire.stoke(0, 1, 1), i);
        }
        due.is("the 7th wood", fire.stoke(0, 1, 1), -3);
        due.is("the 7th wood, bad", fire.stoke(0, 0, 1), -1);
        due.is("rule(3)", fire.rule(3), 6);
        due.is("wood(0, 0)", fire.wood(0, 0), 2);
        due.is("wood(5, 1)", fire.wood(5, 1), 1);
    }

    private static void adding() {
        EmberSpuds fire = new EmberSpuds();
        due.is("add(0, 0)", fire.add(0, 0), -1);
        due.is("add(10, 0)", fire.add(10, 0), -1);
        due.is("add(1, 3)", fire.add(1, 3), -1);
        due.is("add(1, -1)", fire.add(1, -1), -1);
        for (int i = 1; i <= 6; i++) {
            due.is("add(" + i + ", 2)", fire.add(i, 2), i);
        }
        due.is("the 7th", fire.add(1, 0), -3);
        due.is("the 7th, bad", fire.add(0, 0), -1);
        due.is("rule(5)", fire.rule(5), 6);
        int[] last = {6, 2, -4, 0, 0, 0, 0, 0, 0, -4};
        for (int what = 0; what < last.length; what++) {
            due.is("spud(5, " + what + ")", fire.spud(5, what), last[what]);
        }
    }

    private static void addingWhereOneWas() {
        EmberSpuds fire = Due.told("heat 1 80 0 0;");
        fire.keep(0);
        fire.add(9, 2);
        fire.dig(0, 3);
        fire.memo(0, 1);
        fire.go(1);
        fire.turn(0);
        fire.go(1);
        fire.back(0);
        due.is("add(2, 1)", fire.add(2, 1), 1);
        int[] raw = {2, 1, -4, 0, 0, 0, 0, 0, 0, -4};
        for (int what = 0; what < raw.length; what++) {
            due.is("spud(0, " + what + ") of a new one", fire.spud(0, what), raw[what]);
        }
    }

    private static void digging() {
        EmberSpuds fire = Due.told("spud 1 bare 8;out 1 bare;");
        due.is("dig(1, 8)", fire.dig(1, 8), -2);
        due.is("dig(0, 8)", fire.dig(0, 8), 8);
        due.is("dig(1, -4)", fire.dig(1, -4), -4);
        due.is("dig(1, 0)", fire.dig(1, 0), -4);
        due.is("dig(0, 0)", fire.dig(0, 0), -2);
        due.is("spud(0, 2)", fire.spud(0, 2), 8);
        due.is("dig(1, 7)", fire.dig(1, 7), 0);
        due.is("dig(1, -4)", fire.dig(1, -4), 7);
        due.is("spud(1, 2)", fire.spud(1, 2), -4);
        due.is("dig(0, 9)", fire.dig(0, 9), -1);
        due.is("dig(0, -1)", fire.dig(0, -1), -1);
        due.is("dig(0, -5)", fire.dig(0, -5), -1);
        due.is("dig(2, 0)", fire.dig(2, 0), -1);
        due.is("dig(-1, 0)", fire.dig(-1, 0), -1);
        due.is("spud(0, 2)", fire.spud(0, 2), 8);
    }

    private static void turningAndWrapping() {
        EmberSpuds fire = Due.told("heat 1 80 0 0;spud 9 bare 3;");
        fire.go(1);
        due.is("turn(0)", fire.turn(0), 0);
        due.is("spud(0, 5)", fire.spud(0, 5), 10);
        fire.go(1);
        due.is("spud(0, 4)", fire.spud(0, 4), 9);
        due.is("turn(0)", fire.turn(0), 10);
        due.is("spud(0, 5)", fire.spud(0, 5), 9);
        due.is("turn(1)", fire.turn(1), -1);
        due.is("turn(-1)", fire.turn(-1), -1);
        due.is("wrap(0, 2)", fire.wrap(0, 2), 0);
        due.is("wrap(0, 0)", fire.wrap(0, 0), 2);
        due.is("wrap(0, 1)", fire.wrap(0, 1), 0);
        due.is("wrap(0, 3)", fire.wrap(0, 3), -1);
        due.is("wrap(0, -1)", fire.wrap(0, -1), -1);
        due.is("wrap(1, 0)", fire.wrap(1, 0), -1);
        due.is("wrap(-1, 0)", fire.wrap(-1, 0), -1);
        due.is("spud(0, 1)", fire.spud(0, 1), 1);
        due.is("spud(0, 3) stays", fire.spud(0, 3), 31);
    }

    private static void remembering() {
        EmberSpuds fire = Due.told("out 1 bare;");
        due.is("memo(0, 2)", fire.memo(0, 2), -4);
        due.is("memo(0, 0)", fire.memo(0, 0), 2);
        due.is("spud(0, 9)", fire.spud(0, 9), 0);
        due.is("memo(0, -4)", fire.memo(0, -4), 0);
        due.is("memo(0, -4)", fire.memo(0, -4), -4);
        due.is("memo(0, 3)", fire.memo(0, 3), -1);
        due.is("memo(0, -1)", fire.memo(0, -1), -1);
        due.is("memo(1, 0)", fire.memo(1, 0), -1);
        due.is("memo(-1, 0)", fire.memo(-1, 0), -1);
        due.is("spud(0, 9)", fire.spud(0, 9), -4);
    }

    private static void raking() {
        EmberSpuds fire = Due.told("fire 8 1 1;");
        due.is("rake(0, true)", fire.rake(0, true), 0);
        due.is("rake(0, true)", fire.rake(0, true), 1);
        due.is("rake(23, true)", fire.rake(23, true), 0);
        due.is("rule(6)", fire.rule(6), 1 + (1 << 23));
        due.is("rake(0, false)", fire.rake(0, false), 1);
        due.is("rake(0, false)", fire.rake(0, false), 0);
        due.is("rule(6)", fire.rule(6), 1 << 23);
        due.is("rake(24, true)", fire.rake(24, true), -1);
        due.is("rake(-1, true)", fire.rake(-1, true), -1);
        due.is("rule(6)", fire.rule(6), 1 << 23);
    }
}
