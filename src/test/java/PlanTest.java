/** Promises 23 to 26: where to put which, when to turn, the least wood, the best hour. */
public final class PlanTest {
    private static final Due due = new Due("PlanTest");

    public static void main(String[] args) {
        places();
        placesByOrder();
        placesOfOut();
        placesOfSixInEightCells();
        atTheEdgeOfBlack();
        flip();
        least();
        best();
        due.close();
    }

    private static void places() {
        EmberSpuds none = new EmberSpuds();
        due.is("places(20, 0) of none", none.places(20, 0), 0);
        due.is("places(20, 10) of none", none.places(20, 10), -1);
        EmberSpuds fire = Due.told("fire 3 0 0;heat 1 80 0 0;spud 4 bare 0;out 4 bare;");
        due.is("places(3, 0)", fire.places(3, 0), 1);
        due.is("places(2, 0)", fire.places(2, 0), 0);
        due.is("places(4, 0)", fire.places(4, 0), 0);
        int[][] bad = {{-1, 0}, {21, 0}, {3, 1}, {3, 9}, {3, 12}, {3, -1}, {3, 2}, {-1, 10}, {21, 11}};
        for (int[] b : bad) {
            due.is("places(" + b[0] + ", " + b[1] + ")", fire.places(b[0], b[1]), -1);
        }
        due.is("nothing is laid", fire.spud(0, 2), 0);
        due.is("nothing is laid", fire.spud(1, 2), -4);
        due.is("nothing went", fire.rule(4), 0);
        int least = Integer.MIN_VALUE;
        due.is("places(3, " + least + ")", fire.places(3, least), -1);
    }

    private static void placesByOrder() {
        EmberSpuds one = Due.told("fire 3 0 0;heat 1 80 0 0;out 4 bare;out 4 bare;");
        due.is("the first steps aside", one.places(3, 10), 0);
        due.is("the second is good", one.places(3, 11), 3);
        due.is("none is good: the first place", one.places(1, 10), 0);
        due.is("none is good: the second place", one.places(1, 11), 1);
        EmberSpuds two = Due.told("fire 3 0 0;heat 1 80 80 0;out 4 bare;out 4 bare;out 9 bare;");
        due.is("two hot places", two.places(3, 0), 2);
        due.is("places(3, 10)", two.places(3, 10), 3);
        due.is("places(3, 11)", two.places(3, 11), 4);
        due.is("places(3, 12)", two.places(3, 12), 0);
        // The small one is good in both hot places, the great one in the hotter one alone.
        EmberSpuds hall = Due.told("fire 3 0 0;heat 1 99 60 0;out 3 foil;out 4 foil;");
        due.is("hall places(3, 0)", hall.places(3, 0), 2);
        due.is("hall places(3, 10)", hall.places(3, 10), 4);
        due.is("hall places(3, 11)", hall.places(3, 11), 3);
    }

    private static void placesOfOut() {
        EmberSpuds fire = Due.told("fire 3 0 0;heat 0 99 99 99;heat 1 99 99 99;heat 2 99 99 99;"
                + "spud 1 bare 0;out 2 bare;");
        fire.go(1);
        due.is("it is good", fire.spud(0, 8), 1);
        due.is("places(10, 0)", fire.places(10, 0), 1);
        due.is("it has to be out", fire.places(10, 10), -4);
        due.is("this one never", fire.places(10, 11), 0);
        due.is("places(0, 10)", fire.places(0, 10), 0);
        due.is("places(2, 0)", fire.places(2, 0), 2);
        due.is("places(2, 10)", fire.places(2, 10), 0);
        due.is("places(2, 11)", fire.places(2, 11), 1);
    }

    private static void placesOfSixInEightCells() {
        EmberSpuds fire = Due.told("fire 8 0 0;heat 7 80 80 80;out 4 bare;out 4 bare;out 4 bare;out 4 bare;"
                + "out 4 bare;out 4 bare;");
        due.is("places(3, 0) of six", fire.places(3, 0), 3);
        int[] each = {0, 1, 2, 21, 22, 23};
        for (int p = 0; p < 6; p++) {
            due.is("places(3, " + (10 + p) + ") of six", fire.places(3, 10 + p), each[p]);
        }
        due.is("places(3, 16)", fire.places(3, 16), -1);
    }

    private static void atTheEdgeOfBlack() {
        EmberSpuds fire = Due.told("fire 3 0 0;heat 1 24 16 0;spud 5 bare 3;");
        fire.go(13);
        due.is("the side below", fire.spud(0, 4), 39);
        due.is("places(1, 0)", fire.places(1, 0), 1);
        due.is("places(1, 10)", fire.places(1, 10), 0);
        due.is("flip(0, 1)", fire.flip(0, 1), 0);
        due.is("flip(0, 13)", fire.flip(0, 13), 0);
        due.is("flip(0, 14)", fire.flip(0, 14), -4);
        fire.turn(0);
        due.is("turned places(13, 0)", fire.places(13, 0), 1);
        due.is("turned flip(0, 1)", fire.flip(0, 1), -4);
        fire.fan(0, 8);
        due.is("turned places(20, 10)", fire.places(20, 10), 0);
        fire.turn(0);
        due.is("places(1, 10) behind it", fire.places(1, 10), 1);
    }

    private static void flip() {
        EmberSpuds fire = Due.told("fire 3 0 0;heat 1 80 0 0;spud 9 bare 3;out 1 bare;spud 1 bare 4;");
        // 10 a round on the side below: neither side may have more than 3 of the 6 rounds.
        due.is("flip(0, 6)", fire.flip(0, 6), 3);
        due.is("flip(0, 5): 80 are not 90", fire.flip(0, 5), -4);
        due.is("flip(0, 7)", fire.flip(0, 7), -4);
        due.is("flip(1, 20) of a raw one that is out", fire.flip(1, 20), -4);
        due.is("flip(0, 0)", fire.flip(0, 0), -1);
        due.is("flip(0, 21)", fire.flip(0, 21), -1);
        due.is("flip(3, 1)", fire.flip(3, 1), -1);
        due.is("flip(-1, 1)", fire.flip(-1, 1), -1);
        due.is("nothing is turned", fire.spud(0, 4) + fire.rule(4), 0);
        EmberSpuds small = Due.told("fire 3 0 0;heat 1 80 0 0;spud 1 bare 3;");
        due.is("small flip(0, 1)", small.flip(0, 1), 0);
        small.go(1);
        small.dig(0, -4);
        due.is("a good one that is out", small.flip(0, 20), 0);
        small.dig(0, 3);
        // One side has 10 already, so it may have 2 rounds more, and the other one 3.
        due.is("small flip(0, 3)", small.flip(0, 3), 0);
        due.is("small flip(0, 4)", small.flip(0, 4), 1);
        due.is("small flip(0, 5)", small.flip(0, 5), 2);
        due.is("small flip(0, 6)", small.flip(0, 6), -4);
    }

    private static void least() {
        EmberSpuds fire = Due.told("fire 3 0 0;spud 1 bare 3;spud 1 bare 4;spud 1 bare 5;out 1 bare;");
        // 10 are needed in the one round that is left behind the first: a heat of 50.
        due.is("least(0, 2)", fire.least(0, 2), 50);
        due.is("least(0, 3)", fire.least(0, 3), 25);
        due.is("least(0, 11)", fire.least(0, 11), 5);
        due.is("least(1, 3)", fire.least(1, 3), 50);
        due.is("least(2, 3): 24 is too little", fire.least(2, 3), -4);
        due.is("least(2, 4)", fire.least(2, 4), 80);
        due.is("least(0, 1)", fire.least(0, 1), -4);
        due.is("least(3, 5)", fire.least(3, 5), -2);
        due.is("least(3, 0)", fire.least(3, 0), -1);
        due.is("least(0, 21)", fire.least(0, 21), -1);
        due.is("least(4, 1)", fire.least(4, 1), -1);
        due.is("least(-1, 1)", fire.least(-1, 1), -1);
        due.is("nothing is laid", fire.rule(3), 0);
        fire.stoke(1, 20, 1);
        due.is("beside other wood", fire.least(0, 2), 30);
        due.is("halves beside other wood", fire.least(1, 2), 80);
        for (int i = 0; i < 5; i++) {
            fire.stoke(2, 1, 9);
        }
        due.is("beside six others", fire.least(0, 2), 30);
        fire.fan(3, 50);
        due.is("none is needed", fire.least(0, 1), 0);
        fire.fan(3, 49);
        due.is("none is needed behind 2", fire.least(0, 2), 0);
        due.is("too late for wood", fire.least(0, 1), -4);
    }

    private static void best() {
        EmberSpuds none = new EmberSpuds();
        due.is("best(0) of none", none.best(0), 0);
        due.is("best(1) of none", none.best(1), 0);
        EmberSpuds fire = Due.told("fire 3 0 0;heat 1 80 40 0;spud 4 bare 3;spud 4 bare 4;spud 1 bare 5;");
        due.is("best(0)", fire.best(0), 3);
        due.is("best(1)", fire.best(1), 1);
        fire.fan(5, 40);
        // The last is good behind 2 to 7 rounds, the first behind 3.
        due.is("best(0)", fire.best(0), 3);
        due.is("best(1)", fire.best(1), 2);
        due.is("best(2)", fire.best(2), -1);
        due.is("best(-1)", fire.best(-1), -1);
        due.is("nothing went", fire.rule(4), 0);
        EmberSpuds slow = Due.told("fire 3 0 0;heat 1 15 0 0;spud 6 bare 3;");
        due.is("best(0) behind 20", slow.best(0), 20);
        due.is("best(1) behind 20", slow.best(1), 1);
        slow.fan(3, 14);
        due.is("best(0) of none good", slow.best(0), 0);
        due.is("best(1) of none good", slow.best(1), 0);
    }
}
