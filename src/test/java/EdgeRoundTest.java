import java.util.function.Supplier;

/** Promises 19 to 22 and A ROUND of the Terms: each sentence at its edge. */
public final class EdgeRoundTest {
    private static final Edge edge = new Edge("EdgeRoundTest");

    public static void main(String[] args) {
        coreAndSideDown();
        bakedAtMost();
        theOrderOfARound();
        emberDown();
        emberAtMost();
        woodOfOneRound();
        fallAtLeast();
        theRim();
        done();
        black();
        going();
        goingFull();
        lookingAhead();
        lookingLater();
        watching();
        watchingGood();
        edge.close();
    }

    private static EmberSpuds oneIn(int heat, int size, int wrap) {
        EmberSpuds fire = Due.told("fire 3 0 0;");
        fire.fan(4, heat);
        fire.add(size, wrap);
        fire.dig(0, 4);
        return fire;
    }

    private static void coreAndSideDown() {
        edge.sentence("CORE is more by HEAT divided by 5 (clay 7, foil 6), the SIDE below by 8 (clay 16, foil 12), each down");
        int[] coreBy = {5, 7, 6};
        int[] sideBy = {8, 16, 12};
        for (int wrap = 0; wrap < 3; wrap++) {
            for (int times = 1; times * coreBy[wrap] <= 99; times++) {
                edge.is("just enough for CORE", oneIn(times * coreBy[wrap], 9, wrap).ahead(0, 1, 3), times);
                edge.is("just too little for CORE", oneIn(times * coreBy[wrap] - 1, 9, wrap).ahead(0, 1, 3), times - 1);
            }
            for (int times = 1; times * sideBy[wrap] <= 99; times++) {
                edge.is("just enough for the SIDE", oneIn(times * sideBy[wrap], 9, wrap).ahead(0, 1, 4), times);
                edge.is("just too little for the SIDE", oneIn(times * sideBy[wrap] - 1, 9, wrap).ahead(0, 1, 4), times - 1);
            }
        }
    }

    private static void bakedAtMost() {
        edge.sentence("CORE, SIDES (0 to 99 each): 99 at most");
        EmberSpuds fire = oneIn(55, 9, 0);
        edge.is("CORE 99 by 9 rounds of 11", fire.ahead(0, 9, 3), 99);
        edge.is("CORE no more", fire.ahead(0, 10, 3), 99);
        edge.is("CORE behind 60", fire.ahead(0, 60, 3), 99);
        EmberSpuds one = oneIn(35, 9, 0);
        edge.is("CORE 98 by 14 rounds of 7", one.ahead(0, 14, 3), 98);
        edge.is("CORE 99, not 105", one.ahead(0, 15, 3), 99);
        EmberSpuds side = oneIn(72, 9, 0);
        edge.is("SIDE 99 by 11 rounds of 9", side.ahead(0, 11, 4), 99);
        edge.is("SIDE no more", side.ahead(0, 12, 4), 99);
        EmberSpuds far = oneIn(56, 9, 0);
        edge.is("SIDE 98 by 14 rounds of 7", far.ahead(0, 14, 4), 98);
        edge.is("SIDE 99, not 105", far.ahead(0, 15, 4), 99);
        edge.is("the other SIDE stays", far.ahead(0, 15, 5), 0);
        edge.is("cold: nothing", oneIn(0, 9, 0).ahead(0, 60, 3), 0);
    }

    private static void theOrderOfARound() {
        edge.sentence("First each POTATO bakes by its HEAT. Second WOOD. Third HEAT is less");
        EmberSpuds fire = Due.told("fire 3 9 0;heat 1 40 0 0;wood 1 50 1;spud 9 bare 3;");
        edge.is("it bakes by the heat of before", fire.ahead(0, 1, 3), 8);
        edge.is("then by 40 and 50 less 9", fire.ahead(0, 2, 3), 8 + 16);
        edge.is("heat behind 1", fire.later(3, 1), 81);
        EmberSpuds cold = Due.told("fire 3 9 9;wood 1 9 1;wood 0 18 1;wood 2 19 1;");
        edge.is("the ember falls in its own round", cold.later(3, 1), 0);
        edge.is("at the rim too", cold.later(0, 1), 0);
        edge.is("1 is left", cold.later(6, 1), 1);
        EmberSpuds full = Due.told("fire 3 5 0;heat 1 98 0 0;wood 1 50 1;");
        edge.is("99 at most ahead of the fall", full.later(3, 1), 94);
        EmberSpuds out = Due.told("fire 3 0 0;heat 0 99 99 99;out 1 bare;");
        edge.is("one that is OUT does not bake", out.ahead(0, 60, 3), 0);
        edge.sentence("ROUND is 1 more");
        edge.is("go(1)", out.go(1), 0);
        edge.is("rule(4)", out.rule(4), 1);
    }

    private static void emberDown() {
        edge.sentence("on top more by AMOUNT, in the PLACE below by half of it, in the lowest one by a quarter, each down");
        for (int amount = 1; amount <= 99; amount++) {
            EmberSpuds fire = Due.told("fire 3 0 0;wood 1 " + amount + " 1;");
            edge.is("top of " + amount, fire.later(3, 1), amount);
            edge.is("below of " + amount, fire.later(4, 1), amount / 2);
            edge.is("lowest of " + amount, fire.later(5, 1), amount / 4);
            edge.is("the CELL before", fire.later(2, 1), 0);
            edge.is("the CELL behind", fire.later(6, 1), 0);
        }
    }

    private static void emberAtMost() {
        edge.sentence("HEAT 99 at most");
        EmberSpuds fire = Due.told("fire 3 0 0;heat 0 49 49 74;heat 1 50 50 75;heat 2 51 51 76;"
                + "wood 0 50 1;wood 1 50 1;wood 2 50 1;");
        int[] then = {99, 74, 86, 99, 75, 87, 99, 76, 88};
        for (int x = 0; x < then.length; x++) {
            edge.is("later(" + x + ", 1)", fire.later(x, 1), then[x]);
        }
        EmberSpuds heap = Due.told("fire 3 0 0;" + "wood 1 99 1;".repeat(4));
        edge.is("four at once on top", heap.later(3, 1), 99);
        edge.is("four at once below", heap.later(4, 1), 99);
        edge.is("four at once lowest", heap.later(5, 1), 96);
        EmberSpuds five = Due.told("fire 3 0 0;" + "wood 1 99 1;".repeat(5));
        edge.is("five at once lowest", five.later(5, 1), 99);
    }

    private static void woodOfOneRound() {
        edge.sentence("WOOD with 1 ROUND is ember; it is gone; other WOOD has 1 ROUND less");
        for (int rounds = 1; rounds <= 9; rounds++) {
            EmberSpuds fire = Due.told("fire 3 0 0;wood 1 8 " + rounds + ";");
            edge.is("a round before", fire.later(3, rounds - 1), 0);
            edge.is("in its round", fire.later(3, rounds), 8);
            edge.is("once alone", fire.later(3, rounds + 1), 8);
            fire.go(rounds - 1);
            edge.is("it is there", fire.rule(3), 1);
            edge.is("with 1 round", fire.wood(0, 2), 1);
            fire.go(1);
            edge.is("it is gone", fire.rule(3), 0);
        }
    }

    private static void fallAtLeast() {
        edge.sentence("HEAT of each PLACE is less by FALL, 0 at least");
        EmberSpuds fire = Due.told("fire 4 9 0;heat 1 8 9 10;heat 2 0 1 99;");
        int[] then = {0, 0, 0, 0, 0, 1, 0, 0, 90, 0, 0, 0};
        for (int x = 0; x < then.length; x++) {
            edge.is("later(" + x + ", 1)", fire.later(x, 1), then[x]);
        }
        EmberSpuds still = Due.told("fire 3 0 0;heat 1 1 2 99;heat 0 99 0 1;");
        edge.is("FALL 0: nothing falls", still.later(5, 60), 99);
        edge.is("RIM 0: nothing falls", still.later(0, 60), 99);
    }

    private static void theRim() {
        edge.sentence("in the first and the last CELL by RIM besides");
        for (int cells = 3; cells <= 8; cells++) {
            EmberSpuds fire = Due.told("fire " + cells + " 2 3;");
            for (int x = 0; x < 3 * cells; x++) {
                fire.fan(x, 4 + x % 3);
            }
            fire.go(1);
            for (int x = 0; x < 3 * cells; x++) {
                boolean atRim = x / 3 == 0 || x / 3 == cells - 1;
                int[] left = atRim ? new int[] {0, 0, 1} : new int[] {2, 3, 4};
                edge.is("heat(" + x + ") of " + cells, fire.heat(x), left[x % 3]);
            }
        }
    }

    private static void done() {
        edge.sentence("A POTATO is DONE, if its CORE is 10 times its SIZE or more");
        for (int size = 1; size <= 9; size++) {
            EmberSpuds fire = oneIn(5, size, 0);
            edge.is("CORE 1 less, size " + size, fire.ahead(0, Math.min(60, 10 * size - 1), 6), 0);
            if (10 * size <= 60) {
                edge.is("CORE just so", fire.ahead(0, 10 * size, 3), 10 * size);
                edge.is("DONE, size " + size, fire.ahead(0, 10 * size, 6), 1);
            } else {
                fire.go(10 * size - 60);
                edge.is("CORE just so", fire.ahead(0, 60, 3), 10 * size);
                edge.is("DONE, size " + size, fire.ahead(0, 60, 6), 1);
                edge.is("not DONE a round before", fire.ahead(0, 59, 6), 0);
            }
        }
    }

    private static void black() {
        edge.sentence("BLACK, if one of its SIDES is 40 or more; GOOD, if it is DONE and not BLACK");
        EmberSpuds fire = oneIn(8, 1, 0);
        edge.is("39", fire.ahead(0, 39, 4), 39);
        edge.is("39 is not BLACK", fire.ahead(0, 39, 7), 0);
        edge.is("39 is GOOD", fire.ahead(0, 39, 8), 1);
        edge.is("40 is BLACK", fire.ahead(0, 40, 7), 1);
        edge.is("40 is not GOOD", fire.ahead(0, 40, 8), 0);
        edge.is("BLACK and DONE", fire.ahead(0, 40, 6), 1);
        fire.go(39);
        fire.turn(0);
        edge.is("39 and 39 is GOOD", fire.ahead(0, 39, 8), 1);
        edge.is("40 below, 39 above is BLACK", fire.ahead(0, 40, 7), 1);
        fire.turn(0);
        fire.go(1);
        fire.turn(0);
        edge.is("40 above, 0 below is BLACK", fire.spud(0, 7), 1);
        edge.is("and not GOOD", fire.spud(0, 8), 0);
        EmberSpuds raw = oneIn(16, 9, 0);
        edge.is("BLACK, not DONE", raw.ahead(0, 20, 7), 1);
        edge.is("not DONE", raw.ahead(0, 20, 6), 0);
        edge.is("nor GOOD", raw.ahead(0, 20, 8), 0);
    }

    private static EmberSpuds atRound(int round) {
        EmberSpuds fire = Due.told("heat 1 9 9 9;wood 0 5 9;spud 1 bare 4;");
        for (int left = round; left > 0; left -= Math.min(60, left)) {
            fire.go(Math.min(60, left));
        }
        return fire;
    }

    private static void going() {
        edge.sentence("19 n ROUNDS go (0 to 60): how many POTATOES are GOOD then. BAD");
        edge.leaves("go(0)", Edge::rich, f -> f.go(0), Edge.rich().count(2));
        edge.leaves("go(-1)", Edge::rich, f -> f.go(-1), -1);
        edge.leaves("go(61)", Edge::rich, f -> f.go(61), -1);
        EmberSpuds fire = oneIn(5, 1, 0);
        edge.is("go(9)", fire.go(9), 0);
        edge.is("go(1): DONE just now", fire.go(1), 1);
        EmberSpuds long60 = oneIn(5, 6, 0);
        edge.is("go(60)", long60.go(60), 1);
        edge.is("rule(4)", long60.rule(4), 60);
        EmberSpuds out = oneIn(50, 1, 0);
        out.go(1);
        out.dig(0, -4);
        edge.is("one that is OUT is GOOD too", out.go(60), 1);
        EmberSpuds single = Edge.rich();
        for (int i = 0; i < 7; i++) {
            single.go(1);
        }
        EmberSpuds atOnce = Edge.rich();
        atOnce.go(7);
        edge.is("7 rounds are 7 times one", Edge.whole(single).equals(Edge.whole(atOnce)) ? 1 : 0, 1);
    }

    private static void goingFull() {
        edge.sentence("19 FULL: ROUND would be 1000 or more; BAD is the first that fits");
        edge.is("to 999 by 60", atRound(939).go(60), 0);
        edge.leaves("to 1000 by 60", () -> atRound(940), f -> f.go(60), -3);
        edge.is("to 999 by 1", atRound(998).go(1), 0);
        edge.leaves("to 1000 by 1", () -> atRound(999), f -> f.go(1), -3);
        edge.leaves("to 1001 by 2", () -> atRound(999), f -> f.go(2), -3);
        edge.leaves("0 rounds at 999", () -> atRound(999), f -> f.go(0), 0);
        edge.leaves("61 rounds at 999", () -> atRound(999), f -> f.go(61), -1);
        edge.leaves("-1 rounds at 999", () -> atRound(999), f -> f.go(-1), -1);
        EmberSpuds fire = atRound(999);
        edge.is("rule(4)", fire.rule(4), 999);
        edge.is("a text begins anew", fire.text(), 0);
        edge.is("then there is room", fire.go(60), 0);
    }

    private static void lookingAhead() {
        edge.sentence("20 Of a POTATO behind n ROUNDS (0 to 60) from now on, as in spud(). BAD");
        for (int what = 0; what < 10; what++) {
            int asked = what;
            edge.leaves("ahead(2, 0, " + what + ")", Edge::rich, f -> f.ahead(2, 0, asked), Edge.rich().spud(2, what));
            EmberSpuds then = Edge.rich();
            then.go(60);
            edge.leaves("ahead(2, 60, " + what + ")", Edge::rich, f -> f.ahead(2, 60, asked), then.spud(2, what));
        }
        edge.leaves("61 rounds", Edge::rich, f -> f.ahead(2, 61, 0), -1);
        edge.leaves("-1 rounds", Edge::rich, f -> f.ahead(2, -1, 0), -1);
        edge.leaves("what 10", Edge::rich, f -> f.ahead(2, 1, 10), -1);
        edge.leaves("what -1", Edge::rich, f -> f.ahead(2, 1, -1), -1);
        edge.leaves("no potato", Edge::rich, f -> f.ahead(3, 1, 0), -1);
        edge.leaves("60 rounds at 999: none goes", () -> atRound(999), f -> f.ahead(0, 60, 0), 1);
    }

    private static void lookingLater() {
        edge.sentence("21 HEAT of a PLACE behind n ROUNDS (0 to 60). BAD");
        Supplier<EmberSpuds> fire = () -> Due.told("fire 4 1 0;heat 1 99 60 59;heat 3 61 0 0;");
        edge.leaves("later(3, 0)", fire, f -> f.later(3, 0), 99);
        edge.leaves("later(3, 60)", fire, f -> f.later(3, 60), 39);
        edge.leaves("later(4, 59)", fire, f -> f.later(4, 59), 1);
        edge.leaves("later(4, 60)", fire, f -> f.later(4, 60), 0);
        edge.leaves("later(5, 60)", fire, f -> f.later(5, 60), 0);
        edge.leaves("later(9, 60)", fire, f -> f.later(9, 60), 1);
        edge.leaves("later(3, 61)", fire, f -> f.later(3, 61), -1);
        edge.leaves("later(3, -1)", fire, f -> f.later(3, -1), -1);
        edge.leaves("later(12, 0)", fire, f -> f.later(12, 0), -1);
        edge.leaves("later(-1, 0)", fire, f -> f.later(-1, 0), -1);
        edge.leaves("60 rounds at 999: none goes", () -> atRound(999), f -> f.later(4, 60), 0);
    }

    private static void watching() {
        edge.sentence("22 Behind how many ROUNDS (0 to 40) a POTATO is DONE (what 0), BLACK (1) first; NONE: in none");
        edge.leaves("DONE behind 40", () -> oneIn(5, 4, 0), f -> f.when(0, 0), 40);
        EmberSpuds late = oneIn(5, 5, 0);
        edge.is("DONE behind 50", late.when(0, 0), -4);
        late.go(9);
        edge.is("DONE behind 41", late.when(0, 0), -4);
        late.go(1);
        edge.is("DONE behind 40", late.when(0, 0), 40);
        late.go(39);
        edge.is("DONE behind 1", late.when(0, 0), 1);
        late.go(1);
        edge.is("DONE now", late.when(0, 0), 0);
        late.go(1);
        edge.is("DONE already", late.when(0, 0), 0);
        edge.leaves("BLACK behind 40", () -> oneIn(8, 9, 0), f -> f.when(0, 1), 40);
        edge.leaves("never BLACK", () -> oneIn(7, 9, 0), f -> f.when(0, 1), -4);
        EmberSpuds black = oneIn(8, 9, 0);
        black.go(40);
        edge.is("BLACK now", black.when(0, 1), 0);
        edge.leaves("one that is OUT", Edge::rich, f -> f.when(1, 0), -4);
        edge.leaves("one that is OUT", Edge::rich, f -> f.when(1, 1), -4);
        edge.leaves("what 3", Edge::rich, f -> f.when(1, 3), -1);
        edge.leaves("no potato", Edge::rich, f -> f.when(3, 0), -1);
        edge.leaves("at round 999", () -> atRound(999), f -> f.when(0, 2), atRound(999).spud(0, 8) * 41);
    }

    private static void watchingGood() {
        edge.sentence("22 of these ROUNDS, in how many it is GOOD (2)");
        edge.leaves("in none: raw", () -> oneIn(0, 1, 0), f -> f.when(0, 2), 0);
        edge.leaves("in none: OUT", Edge::rich, f -> f.when(1, 2), 0);
        edge.leaves("in the last alone", () -> oneIn(5, 4, 0), f -> f.when(0, 2), 1);
        edge.leaves("DONE behind 10, BLACK behind 40: 10 to 39", () -> oneIn(8, 1, 0), f -> f.when(0, 2), 30);
        edge.leaves("from 10 on to the last", () -> oneIn(5, 1, 0), f -> f.when(0, 2), 31);
        Supplier<EmberSpuds> always = () -> {
            EmberSpuds fire = oneIn(5, 1, 0);
            fire.go(10);
            return fire;
        };
        edge.leaves("in all, 0 to 40", always, f -> f.when(0, 2), 41);
        EmberSpuds early = oneIn(80, 1, 0);
        early.go(1);
        edge.is("GOOD now and behind 1, 2", early.when(0, 2), 3);
        early.go(3);
        edge.is("BLACK already", early.when(0, 2), 0);
    }
}
