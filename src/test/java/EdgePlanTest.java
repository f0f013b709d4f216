import java.util.function.Supplier;

/** Promises 23 to 26, where, when, how much: each sentence at its edge. */
public final class EdgePlanTest {
    private static final Edge edge = new Edge("EdgePlanTest");

    public static void main(String[] args) {
        placesOfNone();
        placesBehindNoRound();
        placesBehindTwenty();
        placesOfTheirOwn();
        placesAheadOfOut();
        placesByPotatoes();
        placesAsBaked();
        flipOfOneRound();
        flipTheFirst();
        flipTheLast();
        flipByNone();
        leastOfNone();
        leastBetween();
        leastAtMost();
        leastRefused();
        bestOfNone();
        bestTheFirst();
        bestTheLast();
        edge.close();
    }

    private static void placesOfNone() {
        edge.sentence("23 All POTATOES being laid anew: of none");
        edge.leaves("places(0, 0)", EmberSpuds::new, f -> f.places(0, 0), 0);
        edge.leaves("places(20, 0)", EmberSpuds::new, f -> f.places(20, 0), 0);
        edge.leaves("places(21, 0)", EmberSpuds::new, f -> f.places(21, 0), -1);
        edge.leaves("places(0, 10)", EmberSpuds::new, f -> f.places(0, 10), -1);
    }

    private static void placesBehindNoRound() {
        edge.sentence("23 behind n ROUNDS (0 ..): as they are, each in the first PLACE that is left");
        Supplier<EmberSpuds> raw = () -> Due.told("heat 1 99 99 99;spud 1 bare 3;out 1 bare;spud 1 bare 0;");
        edge.leaves("raw, none is GOOD", raw, f -> f.places(0, 0), 0);
        for (int p = 0; p < 3; p++) {
            int what = 10 + p;
            edge.leaves("places(0, " + what + ")", raw, f -> f.places(0, what), p);
        }
        edge.leaves("places(0, 13)", raw, f -> f.places(0, 13), -1);
        edge.leaves("places(-1, 0)", raw, f -> f.places(-1, 0), -1);
        EmberSpuds good = Due.told("fire 3 0 0;heat 1 99 50 0;spud 1 bare 4;out 1 bare;");
        good.go(1);
        edge.is("one is GOOD", good.places(0, 0), 1);
        edge.is("and lies first", good.places(0, 10), 0);
    }

    private static void placesBehindTwenty() {
        edge.sentence("23 behind n ROUNDS (.. to 20)");
        // 1 a round: 20 behind 20; 2 a round in the place below.
        Supplier<EmberSpuds> fire = () -> Due.told("fire 3 0 0;heat 1 5 10 0;out 2 bare;out 4 bare;");
        edge.leaves("behind 20", fire, f -> f.places(20, 0), 2);
        edge.leaves("the small one", fire, f -> f.places(20, 10), 3);
        edge.leaves("the great one", fire, f -> f.places(20, 11), 4);
        edge.leaves("behind 19: the small one below alone", fire, f -> f.places(19, 0), 1);
        edge.leaves("behind 19", fire, f -> f.places(19, 10), 4);
        edge.leaves("behind 19", fire, f -> f.places(19, 11), 0);
        edge.leaves("behind 21", fire, f -> f.places(21, 10), -1);
    }

    private static void placesOfTheirOwn() {
        edge.sentence("23 each in a PLACE of its own: six where there are nine, one hot PLACE");
        Supplier<EmberSpuds> six = () -> Due.told("fire 3 0 0;heat 2 0 0 50;" + "out 1 bare;".repeat(6));
        edge.leaves("places(1, 0)", six, f -> f.places(1, 0), 1);
        int[] laid = {0, 1, 2, 3, 4, 8};
        for (int p = 0; p < 6; p++) {
            int what = 10 + p;
            edge.leaves("places(1, " + what + ")", six, f -> f.places(1, what), laid[p]);
        }
        edge.leaves("places(1, 16)", six, f -> f.places(1, 16), -1);
        edge.leaves("places(1, 9)", six, f -> f.places(1, 9), -1);
        edge.sentence("23 the last PLACE of eight CELLS");
        EmberSpuds wide = Due.told("fire 8 0 0;heat 7 0 0 50;out 1 bare;");
        edge.is("places(1, 10)", wide.places(1, 10), 23);
        edge.sentence("23 six hot PLACES for six");
        EmberSpuds hot = Due.told("fire 3 0 0;heat 0 0 0 50;heat 1 0 50 50;heat 2 50 50 50;" + "out 1 bare;".repeat(6));
        edge.is("places(1, 0)", hot.places(1, 0), 6);
        int[] each = {2, 4, 5, 6, 7, 8};
        for (int p = 0; p < 6; p++) {
            edge.is("places(1, " + (10 + p) + ")", hot.places(1, 10 + p), each[p]);
        }
    }

    /** All is so hot that what is GOOD now is BLACK behind 4 rounds anywhere. */
    private static EmberSpuds allHot() {
        EmberSpuds fire = Due.told("fire 3 0 0;heat 0 99 99 99;heat 1 99 99 99;heat 2 99 99 99;spud 1 bare 0;spud 1 bare 1;");
        fire.go(1);
        return fire;
    }

    private static void placesAheadOfOut() {
        edge.sentence("23 the PLACE of a POTATO then (NONE: OUT), PLACES ahead of OUT");
        edge.leaves("GOOD in a place behind 2: 36", EdgePlanTest::allHot, f -> f.places(2, 10), 0);
        edge.leaves("the other one", EdgePlanTest::allHot, f -> f.places(2, 11), 1);
        edge.leaves("BLACK in a place behind 3: 48", EdgePlanTest::allHot, f -> f.places(3, 10), -4);
        edge.leaves("both may be OUT", EdgePlanTest::allHot, f -> f.places(3, 11), -4);
        edge.leaves("both are GOOD", EdgePlanTest::allHot, f -> f.places(3, 0), 2);
        edge.leaves("and nothing is dug", EdgePlanTest::allHot, f -> f.places(20, 0), 2);
        EmberSpuds cool = allHot();
        cool.fan(8, 0);
        edge.is("one cool place: the first has it", cool.places(3, 10), 8);
        edge.is("the other one has to be OUT", cool.places(3, 11), -4);
        EmberSpuds black = allHot();
        black.go(3);
        edge.is("BLACK already: none", black.places(3, 0), 0);
        edge.is("BLACK already: a place ahead of OUT", black.places(3, 10), 0);
    }

    private static void placesByPotatoes() {
        edge.sentence("23 of several ways the first by POTATOES");
        EmberSpuds two = Due.told("fire 3 0 0;heat 1 50 50 0;out 1 bare;out 1 bare;out 1 bare;");
        edge.is("two of three", two.places(1, 0), 2);
        edge.is("the first steps aside, as place 0 is ahead", two.places(1, 10), 0);
        edge.is("the second", two.places(1, 11), 3);
        edge.is("the third", two.places(1, 12), 4);
        EmberSpuds last = Due.told("fire 3 0 0;heat 0 50 0 0;out 1 bare;out 1 bare;");
        edge.is("the hot place is the first itself", last.places(1, 10), 0);
        edge.is("the other one", last.places(1, 11), 1);
        EmberSpuds great = Due.told("fire 3 0 0;heat 0 99 0 0;heat 2 0 0 50;out 1 bare;out 9 bare;out 1 bare;");
        edge.is("the ones that can", great.places(1, 0), 2);
        edge.is("the first", great.places(1, 10), 0);
        edge.is("the great one is in nobody's way", great.places(1, 11), 1);
        edge.is("the last", great.places(1, 12), 8);
    }

    private static void placesAsBaked() {
        edge.sentence("23 as baked as they are");
        EmberSpuds fire = Due.told("fire 3 0 0;heat 1 45 0 0;spud 1 bare 3;");
        edge.is("9 are not enough", fire.places(1, 0), 0);
        fire.go(1);
        edge.is("9 more are enough", fire.places(1, 0), 1);
        edge.is("there", fire.places(1, 10), 3);
        fire.fan(5, 5);
        edge.is("1 more is enough, 9 come first", fire.places(1, 10), 3);
        fire.fan(2, 5);
        edge.is("1 more is enough", fire.places(1, 10), 2);
        EmberSpuds wood = Due.told("fire 3 0 0;wood 2 50 1;out 1 bare;");
        edge.is("wood becomes ember too late", wood.places(1, 0), 0);
        edge.is("wood becomes ember in time", wood.places(2, 0), 1);
        edge.is("there", wood.places(2, 10), 6);
    }

    private static EmberSpuds inEighty(int size, int roundsBefore) {
        EmberSpuds fire = Due.told("fire 3 0 0;heat 1 80 0 0;spud " + size + " bare 3;");
        fire.go(roundsBefore);
        return fire;
    }

    private static void flipOfOneRound() {
        edge.sentence("24 The ROUND (0 to n less 1) .. behind n ROUNDS (1 to 20)");
        edge.leaves("flip(0, 1)", () -> inEighty(1, 0), f -> f.flip(0, 1), 0);
        edge.leaves("flip(0, 0)", () -> inEighty(1, 0), f -> f.flip(0, 0), -1);
        edge.leaves("flip(0, -1)", () -> inEighty(1, 0), f -> f.flip(0, -1), -1);
        edge.leaves("flip(0, 21)", () -> inEighty(1, 0), f -> f.flip(0, 21), -1);
        edge.leaves("flip(1, 1)", () -> inEighty(1, 0), f -> f.flip(1, 1), -1);
        edge.leaves("flip(-1, 1)", () -> inEighty(1, 0), f -> f.flip(-1, 1), -1);
    }

    private static void flipTheFirst() {
        edge.sentence("24 .. so that it is GOOD .., the first");
        edge.leaves("3 rounds above are 30", () -> inEighty(1, 0), f -> f.flip(0, 3), 0);
        edge.leaves("4 above would be 40", () -> inEighty(1, 0), f -> f.flip(0, 4), 1);
        edge.leaves("5", () -> inEighty(1, 0), f -> f.flip(0, 5), 2);
        edge.leaves("6: 30 and 30", () -> inEighty(1, 0), f -> f.flip(0, 6), 3);
        edge.leaves("7: 30 and 40", () -> inEighty(1, 0), f -> f.flip(0, 7), -4);
    }

    private static void flipTheLast() {
        edge.sentence("24 .. (.. to n less 1)");
        EmberSpuds turned = inEighty(1, 3);
        turned.turn(0);
        edge.is("30 above already, below may have 3: no round is left for it", turned.flip(0, 3), -4);
        EmberSpuds slow = Due.told("fire 3 0 0;heat 1 8 0 0;spud 2 bare 3;");
        slow.go(38);
        slow.turn(0);
        // 38 above, none below: turned ahead of round r it gets n less r on the 38.
        edge.is("flip(0, 1)", slow.flip(0, 1), 0);
        edge.is("flip(0, 2): 39 at the last round", slow.flip(0, 2), 1);
        edge.is("flip(0, 20): ahead of the 20th, counted from 0", slow.flip(0, 20), 19);
        EmberSpuds more = Due.told("fire 3 0 0;heat 1 8 0 0;spud 2 bare 3;");
        more.go(39);
        more.turn(0);
        edge.is("40 at the last round", more.flip(0, 20), -4);
        edge.is("none turned ahead of round n", more.flip(0, 1), -4);
    }

    private static void flipByNone() {
        edge.sentence("24 NONE: by none");
        edge.leaves("not DONE", () -> inEighty(9, 0), f -> f.flip(0, 5), -4);
        edge.leaves("DONE by 6 rounds of 16", () -> inEighty(9, 0), f -> f.flip(0, 6), 3);
        edge.leaves("BLACK already", () -> inEighty(1, 4), f -> f.flip(0, 1), -4);
        edge.leaves("it is GOOD now, not behind 7", () -> inEighty(1, 1), f -> f.flip(0, 6), -4);
        edge.leaves("a raw one that is OUT", () -> Due.told("out 1 bare;"), f -> f.flip(0, 20), -4);
        Supplier<EmberSpuds> out = () -> {
            EmberSpuds fire = inEighty(1, 1);
            fire.dig(0, -4);
            return fire;
        };
        edge.leaves("a GOOD one that is OUT", out, f -> f.flip(0, 20), 0);
        EmberSpuds two = Due.told("fire 3 0 0;heat 1 80 0 0;spud 1 bare 3;out 1 bare;");
        edge.is("one that bakes", two.flip(0, 3), 0);
        edge.is("behind it one that is OUT does not", two.flip(1, 3), -4);
    }

    private static EmberSpuds inCold(int size, int place) {
        return Due.told("fire 3 0 0;spud " + size + " bare " + place + ";");
    }

    private static void leastOfNone() {
        edge.sentence("25 0 (none is needed)");
        edge.leaves("DONE already", () -> inEighty(1, 1), f -> f.least(0, 1), 0);
        edge.leaves("DONE by what is hot", () -> inEighty(1, 0), f -> f.least(0, 1), 0);
        EmberSpuds just = inCold(1, 3);
        just.fan(3, 50);
        edge.is("just hot enough", just.least(0, 1), 0);
        just.fan(3, 49);
        edge.is("9 by the first: 1 is needed no longer behind 2", just.least(0, 2), 0);
        edge.is("wood is too late for the first", just.least(0, 1), -4);
        EmberSpuds wood = inCold(1, 3);
        wood.stoke(1, 50, 1);
        edge.is("other wood is enough", wood.least(0, 2), 0);
    }

    private static void leastBetween() {
        edge.sentence("25 The least AMOUNT of WOOD that becomes ember in 1 ROUND, laid now on the CELL of a POTATO");
        EmberSpuds one = inCold(1, 3);
        one.fan(3, 49);
        one.ash(0, 9);
        // 9 in the first round; behind it 40 and the wood, of which 5 are needed: none.
        edge.is("none", one.least(0, 2), 0);
        EmberSpuds cold = inCold(1, 3);
        cold.ash(0, 9);
        edge.is("50 behind a fall of 9", cold.least(0, 2), 59);
        cold.ash(0, 0);
        edge.is("10 rounds of 1", cold.least(0, 11), 5);
        edge.is("19 rounds of 1", cold.least(0, 20), 5);
        edge.is("9 rounds of 2", cold.least(0, 10), 10);
        EmberSpuds nine = inCold(2, 3);
        nine.fan(3, 46);
        nine.go(2);
        edge.is("18 are there, 2 are needed, 9 come", nine.least(0, 1), 0);
        nine.fan(3, 4);
        edge.is("2 are needed behind the first: 4 and 6 are 10", nine.least(0, 2), 6);
        edge.is("of 1 each in two rounds: 4 and 1", nine.least(0, 3), 1);
        EmberSpuds below = inCold(1, 4);
        edge.is("half of it", below.least(0, 2), -4);
        edge.is("half of it in two rounds: 25 are 50", below.least(0, 3), 50);
        EmberSpuds lowest = inCold(1, 5);
        edge.is("a quarter of it in two rounds: 24", lowest.least(0, 3), -4);
        edge.is("a quarter of it in three rounds: 20 are 80", lowest.least(0, 4), 80);
    }

    /** A potato of size 2 with a core, in the cold, where the fall is 9. */
    private static EmberSpuds withCore(int core) {
        EmberSpuds fire = inCold(2, 3);
        fire.fan(3, 5 * core);
        fire.go(1);
        fire.fan(3, 0);
        fire.ash(0, 9);
        return fire;
    }

    private static void leastAtMost() {
        edge.sentence("25 .. to 99; NONE: by none");
        edge.leaves("18 are needed: 99 less 9 are 90", () -> withCore(2), f -> f.least(0, 2), 99);
        edge.leaves("19 are needed", () -> withCore(1), f -> f.least(0, 2), -4);
        edge.leaves("17 are needed: 94 less 9 are 85", () -> withCore(3), f -> f.least(0, 2), 94);
        edge.leaves("wood is never in time for the first round", () -> withCore(19), f -> f.least(0, 1), -4);
        edge.leaves("20 in two rounds: 64 is 55 is 46", () -> inFall(2, 9), f -> f.least(0, 3), 64);
        edge.leaves("90 in five rounds: 95 is 94 is .. is 90", () -> inFall(9, 1), f -> f.least(0, 6), 95);
        edge.leaves("90 in five rounds: 18 each", () -> inCold(9, 3), f -> f.least(0, 6), 90);
        edge.leaves("90 in four rounds: 19 each are 76", () -> inCold(9, 3), f -> f.least(0, 5), -4);
        EmberSpuds rim = inCold(1, 0);
        rim.ash(0, 9);
        rim.ash(1, 9);
        edge.is("at the rim: 68 less 18 are 50", rim.least(0, 2), 68);
        EmberSpuds clay = inCold(1, 3);
        clay.wrap(0, 1);
        edge.is("clay", clay.least(0, 2), 70);
        clay.wrap(0, 2);
        edge.is("foil", clay.least(0, 2), 60);
    }

    private static EmberSpuds inFall(int size, int fall) {
        EmberSpuds fire = inCold(size, 3);
        fire.ash(0, fall);
        return fire;
    }

    private static void leastRefused() {
        edge.sentence("25 BAD; STATE: it is OUT; NONE: the first that fits");
        Supplier<EmberSpuds> out = () -> Due.told("out 1 bare;spud 9 bare 0;");
        edge.leaves("least(0, 1)", out, f -> f.least(0, 1), -2);
        edge.leaves("least(0, 20)", out, f -> f.least(0, 20), -2);
        edge.leaves("least(0, 0): BAD ahead of STATE", out, f -> f.least(0, 0), -1);
        edge.leaves("least(0, 21): BAD ahead of STATE", out, f -> f.least(0, 21), -1);
        edge.leaves("least(2, 1)", out, f -> f.least(2, 1), -1);
        edge.leaves("least(1, 1)", out, f -> f.least(1, 1), -4);
        Supplier<EmberSpuds> done = () -> {
            EmberSpuds fire = inEighty(1, 1);
            fire.dig(0, -4);
            return fire;
        };
        edge.leaves("DONE, but OUT", done, f -> f.least(0, 1), -2);
        edge.leaves("it lays no wood", () -> inCold(1, 3), f -> f.least(0, 2), 50);
    }

    private static void bestOfNone() {
        edge.sentence("26 Behind how many ROUNDS (0 to 20) most POTATOES are GOOD: none");
        edge.leaves("best(0) of none", EmberSpuds::new, f -> f.best(0), 0);
        edge.leaves("best(1) of none", EmberSpuds::new, f -> f.best(1), 0);
        edge.leaves("best(0) of raw ones", () -> Due.told("out 1 bare;spud 1 bare 0;"), f -> f.best(0), 0);
        edge.leaves("best(1) of raw ones", () -> Due.told("out 1 bare;spud 1 bare 0;"), f -> f.best(1), 0);
        edge.leaves("best(2)", Edge::rich, f -> f.best(2), -1);
        edge.leaves("best(-1)", Edge::rich, f -> f.best(-1), -1);
    }

    private static void bestTheFirst() {
        edge.sentence("26 as they lie, the first (what 0), how many are (1)");
        edge.leaves("GOOD from 1 to 3", () -> inEighty(1, 0), f -> f.best(0), 1);
        edge.leaves("GOOD now", () -> inEighty(1, 1), f -> f.best(0), 0);
        edge.leaves("one", () -> inEighty(1, 1), f -> f.best(1), 1);
        EmberSpuds six = Due.told("fire 3 0 0;heat 0 50 50 50;heat 1 50 50 50;spud 1 bare 0;spud 1 bare 1;"
                + "spud 1 bare 2;spud 1 bare 3;spud 1 bare 4;spud 1 bare 5;");
        edge.is("all six behind 1", six.best(0), 1);
        edge.is("six", six.best(1), 6);
        EmberSpuds apart = Due.told("fire 3 0 0;heat 1 99 10 0;spud 1 bare 3;spud 1 bare 4;");
        // The first is GOOD behind 1 to 3, the second from 5 on.
        edge.is("one at a time: the first", apart.best(0), 1);
        edge.is("one at a time", apart.best(1), 1);
    }

    private static void bestTheLast() {
        edge.sentence("26 (.. to 20)");
        EmberSpuds fire = Due.told("fire 3 0 0;heat 1 10 0 0;spud 4 bare 3;");
        edge.is("40 behind 20", fire.best(0), 20);
        edge.is("one", fire.best(1), 1);
        EmberSpuds late = Due.told("fire 3 0 0;heat 1 5 0 0;spud 3 bare 3;");
        late.go(9);
        edge.is("30 behind 21", late.best(0), 0);
        edge.is("none", late.best(1), 0);
        late.go(1);
        edge.is("30 behind 20", late.best(0), 20);
    }
}
