/** Promises 32 and 33: who gets which, and what is lost by morning. */
public final class MorningTest {
    private static final Due due = new Due("MorningTest");

    public static void main(String[] args) {
        takes();
        takesOfNone();
        morning();
        due.close();
    }

    private static void takes() {
        EmberSpuds fire = Due.told("fire 3 0 0;heat 0 99 99 99;heat 1 50 40 0;"
                + "spud 1 bare 3;spud 2 bare 4;spud 2 foil 0;spud 9 clay 1;spud 9 foil 2;out 9 bare;");
        fire.go(3);
        // 0, 1 and 2 are good; the cores of 3 and 4 are 42 and 48, 5 is raw.
        int[] children = {1, 2, 0, 4, 3, 5};
        for (int k = 0; k < children.length; k++) {
            due.is("takes(" + k + ")", fire.takes(k), children[k]);
        }
        due.is("takes(6)", fire.takes(6), -4);
        due.is("takes(2147483647)", fire.takes(Integer.MAX_VALUE), -4);
        due.is("takes(-1)", fire.takes(-1), -1);
        due.is("nobody took any", fire.rule(5), 6);
        fire.go(17);
        // All that lie in the fire are black.
        int[] late = {5, 0, 1, 2, 3, 4};
        for (int k = 0; k < late.length; k++) {
            due.is("late takes(" + k + ")", fire.takes(k), late[k]);
        }
    }

    private static void takesOfNone() {
        EmberSpuds fire = new EmberSpuds();
        due.is("takes(0) of none", fire.takes(0), -4);
        due.is("takes(-1) of none", fire.takes(-1), -1);
        EmberSpuds raw = Due.told("out 1 bare;out 9 bare;");
        due.is("raw ones, the first", raw.takes(0), 0);
        due.is("raw ones, the second", raw.takes(1), 1);
        EmberSpuds even = Due.told("fire 3 0 0;heat 1 50 50 0;out 9 clay;spud 9 clay 3;spud 1 bare 4;");
        even.go(1);
        due.is("good before greater", even.takes(0), 2);
        due.is("the greatest core", even.takes(1), 1);
        due.is("the raw one", even.takes(2), 0);
    }

    private static void morning(EmberSpuds fire, long... all) {
        for (int what = 0; what < 4; what++) {
            due.is("morning(" + what + ")", fire.morning(what), all[what]);
        }
    }

    private static void morning() {
        EmberSpuds fire = new EmberSpuds();
        morning(fire, 0, 1, 1, 1);
        due.is("morning(4)", fire.morning(4), -1);
        due.is("morning(-1)", fire.morning(-1), -1);
        fire.add(1, 0);
        morning(fire, 0, 1, 1, 1);
        fire.dig(0, 3);
        morning(fire, 1, 10, 9, 10);
        fire.dig(0, 4);
        morning(fire, 3, 10, 7, 10);
        fire.dig(0, 8);
        morning(fire, 1, 2, 1, 2);
        morning(Due.told("spud 1 bare 0;spud 1 bare 4;out 1 bare;spud 1 bare 8;"), 9, 10, 63, 200);
        morning(Due.told("spud 1 bare 0;spud 1 bare 3;spud 1 bare 6;spud 1 bare 1;spud 1 bare 4;"
                + "spud 1 bare 7;"), 6, 5, 250047, 1000000);
    }
}
