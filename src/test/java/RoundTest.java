/** Promises 19 to 22: rounds that go, that are only looked at, and when a potato is done. */
public final class RoundTest {
    private static final Due due = new Due("RoundTest");

    public static void main(String[] args) {
        baking();
        bakingByEachWrap();
        bakingAtItsBounds();
        burning();
        woodInOrder();
        cooling();
        going();
        lookingAhead();
        doneBlackGood();
        watching();
        due.close();
    }

    private static void baked(EmberSpuds fire, int p, int core, int below, int other) {
        due.is("core of " + p, fire.spud(p, 3), core);
        due.is("side below of " + p, fire.spud(p, 4), below);
        due.is("other side of " + p, fire.spud(p, 5), other);
    }

    private static void baking() {
        EmberSpuds fire = Due.told("heat 1 79 97 95;spud 3 bare 3;spud 5 clay 4;spud 2 foil 5;out 1 bare;");
        due.is("go(1)", fire.go(1), 0);
        baked(fire, 0, 15, 9, 0);
        baked(fire, 1, 13, 6, 0);
        baked(fire, 2, 15, 7, 0);
        baked(fire, 3, 0, 0, 0);
        due.is("heat(3)", fire.heat(3), 78);
        fire.turn(1);
        fire.dig(2, -4);
        due.is("go(1)", fire.go(1), 1);
        baked(fire, 0, 30, 18, 0);
        baked(fire, 1, 26, 6, 6);
        baked(fire, 2, 15, 7, 0);
    }

    private static void bakingByEachWrap() {
        int[] coreBy = {5, 7, 6};
        int[] sideBy = {8, 16, 12};
        for (int wrap = 0; wrap < 3; wrap++) {
            for (int heat = 0; heat <= 99; heat++) {
                EmberSpuds fire = new EmberSpuds();
                fire.add(9, wrap);
                fire.dig(0, 4);
                fire.fan(4, heat);
                fire.go(1);
                baked(fire, 0, heat / coreBy[wrap], heat / sideBy[wrap], 0);
            }
        }
    }

    private static void bakingAtItsBounds() {
        EmberSpuds fire = Due.told("fire 3 0 0;heat 1 99 99 99;spud 9 bare 3;");
        fire.go(5);
        baked(fire, 0, 95, 60, 0);
        fire.go(1);
        baked(fire, 0, 99, 72, 0);
        fire.go(3);
        baked(fire, 0, 99, 99, 0);
    }

    private static void burning() {
        EmberSpuds fire = Due.told("heat 1 50 50 50;wood 1 99 1;wood 0 7 2;");
        fire.go(1);
        int[] heats = {0, 0, 0, 98, 98, 73, 0, 0, 0};
        for (int x = 0; x < heats.length; x++) {
            due.is("heat(" + x + ") behind 1", fire.heat(x), heats[x]);
        }
        due.is("rule(3)", fire.rule(3), 1);
        due.is("wood(0, 0)", fire.wood(0, 0), 0);
        due.is("wood(0, 2)", fire.wood(0, 2), 1);
        fire.go(1);
        int[] then = {5, 1, 0, 97, 97, 72, 0, 0, 0};
        for (int x = 0; x < then.length; x++) {
            due.is("heat(" + x + ") behind 2", fire.heat(x), then[x]);
        }
        due.is("rule(3)", fire.rule(3), 0);
    }

    private static void woodInOrder() {
        EmberSpuds fire = Due.told("wood 1 10 3;wood 1 20 1;wood 2 30 2;wood 0 41 1;");
        fire.go(1);
        due.is("rule(3)", fire.rule(3), 2);
        due.is("wood(0, 1)", fire.wood(0, 1), 10);
        due.is("wood(0, 2)", fire.wood(0, 2), 2);
        due.is("wood(1, 1)", fire.wood(1, 1), 30);
        due.is("wood(1, 2)", fire.wood(1, 2), 1);
        due.is("heat(0)", fire.heat(0), 39);
        due.is("heat(1)", fire.heat(1), 18);
        due.is("heat(2)", fire.heat(2), 8);
        due.is("heat(3)", fire.heat(3), 19);
        EmberSpuds heap = Due.told("fire 3 0 0;wood 1 3 1;wood 1 3 1;");
        heap.go(1);
        due.is("halves each down", heap.heat(4), 2);
        due.is("quarters each down", heap.heat(5), 0);
    }

    private static void cooling() {
        EmberSpuds fire = Due.told("fire 4 2 3;heat 0 50 4 0;heat 1 50 2 1;heat 2 50 3 0;heat 3 50 5 6;");
        fire.go(1);
        int[] heats = {45, 0, 0, 48, 0, 0, 48, 1, 0, 45, 0, 1};
        for (int x = 0; x < heats.length; x++) {
            due.is("heat(" + x + ")", fire.heat(x), heats[x]);
        }
        due.is("count(8)", fire.count(8), 188);
    }

    private static void going() {
        EmberSpuds fire = new EmberSpuds();
        due.is("go(-1)", fire.go(-1), -1);
        due.is("go(61)", fire.go(61), -1);
        due.is("go(0)", fire.go(0), 0);
        for (int i = 1; i <= 16; i++) {
            due.is("go(60)", fire.go(60), 0);
            due.is("rule(4)", fire.rule(4), 60 * i);
        }
        due.is("go(40)", fire.go(40), -3);
        due.is("go(61)", fire.go(61), -1);
        due.is("go(39)", fire.go(39), 0);
        due.is("rule(4)", fire.rule(4), 999);
        due.is("go(1)", fire.go(1), -3);
        due.is("go(0)", fire.go(0), 0);
        due.is("later(0, 60) at round 999", fire.later(0, 60), 0);
        due.is("rule(4)", fire.rule(4), 999);
    }

    private static void lookingAhead() {
        EmberSpuds fire = Due.told("heat 1 80 60 40;wood 1 10 2;spud 3 bare 3;out 2 clay;memo 0 1;");
        int[] then = {3, 0, 3, 48, 30, 0, 1, 0, 1, 1};
        for (int what = 0; what < then.length; what++) {
            due.is("ahead(0, 3, " + what + ")", fire.ahead(0, 3, what), then[what]);
        }
        due.is("ahead(0, 0, 3)", fire.ahead(0, 0, 3), 0);
        due.is("ahead(1, 60, 2)", fire.ahead(1, 60, 2), -4);
        due.is("ahead(0, 61, 3)", fire.ahead(0, 61, 3), -1);
        due.is("ahead(0, -1, 3)", fire.ahead(0, -1, 3), -1);
        due.is("ahead(2, 1, 3)", fire.ahead(2, 1, 3), -1);
        due.is("ahead(-1, 1, 3)", fire.ahead(-1, 1, 3), -1);
        due.is("ahead(0, 1, 10)", fire.ahead(0, 1, 10), -1);
        due.is("ahead(0, 1, -1)", fire.ahead(0, 1, -1), -1);
        int[] heats = {80, 79, 88, 87};
        for (int n = 0; n < heats.length; n++) {
            due.is("later(3, " + n + ")", fire.later(3, n), heats[n]);
        }
        due.is("later(3, 60)", fire.later(3, 60), 30);
        due.is("later(3, 61)", fire.later(3, 61), -1);
        due.is("later(3, -1)", fire.later(3, -1), -1);
        due.is("later(9, 1)", fire.later(9, 1), -1);
        due.is("later(-1, 1)", fire.later(-1, 1), -1);
        due.is("nothing went", fire.rule(4), 0);
        due.is("nothing baked", fire.spud(0, 3), 0);
        due.is("nothing burnt", fire.rule(3), 1);
        due.is("nothing cooled", fire.heat(3), 80);
    }

    private static void doneBlackGood() {
        EmberSpuds fire = Due.told("fire 3 0 0;heat 1 80 0 0;spud 4 bare 3;spud 8 clay 4;");
        int[][] each = {{0, 0, 0}, {0, 0, 0}, {0, 0, 0}, {1, 0, 1}, {1, 1, 0}};
        for (int n = 0; n < each.length; n++) {
            for (int what = 0; what < 3; what++) {
                due.is("ahead(0, " + n + ", " + (6 + what) + ")", fire.ahead(0, n, 6 + what), each[n][what]);
            }
        }
        fire.go(4);
        fire.turn(0);
        due.is("black on the upper side", fire.spud(0, 7), 1);
        due.is("count(0)", fire.count(0), 1);
        due.is("count(1)", fire.count(1), 1);
        due.is("count(2)", fire.count(2), 0);
        due.is("count(3)", fire.count(3), 0);
    }

    private static void watching() {
        EmberSpuds fire = Due.told("fire 3 0 0;heat 1 80 10 0;spud 4 bare 3;spud 8 bare 4;out 1 bare;"
                + "spud 9 foil 5;");
        due.is("when(0, 0)", fire.when(0, 0), 3);
        due.is("when(0, 1)", fire.when(0, 1), 4);
        due.is("when(0, 2)", fire.when(0, 2), 1);
        due.is("when(1, 0)", fire.when(1, 0), 40);
        due.is("when(1, 1)", fire.when(1, 1), 40);
        due.is("when(1, 2)", fire.when(1, 2), 0);
        due.is("when(3, 0) of one that lies cold", fire.when(3, 0), -4);
        due.is("when(2, 0)", fire.when(2, 0), -4);
        due.is("when(2, 1)", fire.when(2, 1), -4);
        due.is("when(2, 2)", fire.when(2, 2), 0);
        fire.go(3);
        fire.dig(0, -4);
        due.is("when(0, 0) of one that is done", fire.when(0, 0), 0);
        due.is("when(0, 1) of one that is out", fire.when(0, 1), -4);
        due.is("when(0, 2) of one that stays good", fire.when(0, 2), 41);
        due.is("when(0, 3)", fire.when(0, 3), -1);
        due.is("when(0, -1)", fire.when(0, -1), -1);
        due.is("when(4, 0)", fire.when(4, 0), -1);
        due.is("when(-1, 0)", fire.when(-1, 0), -1);
        due.is("nothing went", fire.rule(4), 3);
        EmberSpuds slow = Due.told("fire 3 0 0;heat 1 10 0 0;spud 9 bare 3;");
        slow.go(4);
        due.is("when(0, 0) a round too late", slow.when(0, 0), -4);
        slow.go(1);
        due.is("when(0, 0) just in time", slow.when(0, 0), 40);
    }
}
