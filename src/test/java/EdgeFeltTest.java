import java.util.function.Supplier;

/** Promises 27 to 29, what is felt: each sentence at its edge. */
public final class EdgeFeltTest {
    private static final Edge edge = new Edge("EdgeFeltTest");

    public static void main(String[] args) {
        feeling();
        feelingFull();
        forgetting();
        allFit();
        noneFits();
        oneFits();
        behindNoRound();
        behindTwenty();
        fallAndRim();
        theRimAlone();
        edge.close();
    }

    private static EmberSpuds felt(int times) {
        EmberSpuds fire = Due.told("fire 4 2 3;heat 1 80 60 40;");
        for (int i = 0; i < times; i++) {
            fire.feel(i, 3, 80 - 2 * i);
        }
        return fire;
    }

    private static void feeling() {
        edge.sentence("27 FELT: behind n ROUNDS (0 to 20) the HEAT of a PLACE: how many are. BAD");
        int[][] good = {{0, 0, 0}, {20, 0, 0}, {0, 11, 0}, {0, 0, 99}, {20, 11, 99}};
        for (int[] g : good) {
            edge.is("feel(" + g[0] + ", " + g[1] + ", " + g[2] + ")", felt(0).feel(g[0], g[1], g[2]), 1);
        }
        int[][] bad = {{-1, 0, 0}, {21, 0, 0}, {0, -1, 0}, {0, 12, 0}, {0, 0, -1}, {0, 0, 100}};
        for (int[] b : bad) {
            edge.leaves("feel(" + b[0] + ", " + b[1] + ", " + b[2] + ")", () -> felt(2),
                    f -> f.feel(b[0], b[1], b[2]), -1);
        }
        EmberSpuds fire = felt(0);
        edge.is("the same", fire.feel(1, 3, 78), 1);
        edge.is("the same again", fire.feel(1, 3, 78), 2);
        edge.is("and what is not so", fire.feel(1, 3, 77), 3);
        edge.is("count(4)", fire.count(4), 3);
    }

    private static void feelingFull() {
        edge.sentence("27 FULL: FELT (6); BAD is the first that fits");
        edge.is("the 6th", felt(5).feel(0, 0, 0), 6);
        edge.leaves("the 7th", () -> felt(6), f -> f.feel(0, 0, 0), -3);
        edge.leaves("the 7th behind 21", () -> felt(6), f -> f.feel(21, 0, 0), -1);
        edge.leaves("the 7th of no place", () -> felt(6), f -> f.feel(0, 12, 0), -1);
        edge.leaves("the 7th of heat 100", () -> felt(6), f -> f.feel(0, 0, 100), -1);
        EmberSpuds fire = felt(6);
        fire.forget(5);
        edge.is("there is room again", fire.feel(0, 0, 0), 6);
    }

    private static void forgetting() {
        edge.sentence("28 FELT are the first n alone: how many there were. BAD");
        edge.leaves("forget(0) of none", () -> felt(0), f -> f.forget(0), 0);
        edge.leaves("forget(1) of none", () -> felt(0), f -> f.forget(1), -1);
        edge.leaves("forget(6), all", () -> felt(6), f -> f.forget(6), 6);
        edge.leaves("forget(7)", () -> felt(6), f -> f.forget(7), -1);
        edge.leaves("forget(-1)", () -> felt(6), f -> f.forget(-1), -1);
        edge.leaves("forget(3) of 2", () -> felt(2), f -> f.forget(3), -1);
        EmberSpuds fire = felt(2);
        fire.feel(0, 3, 0);
        edge.is("none fits", fire.fits(0), 0);
        edge.is("forget(2)", fire.forget(2), 3);
        edge.is("the first ones are left", fire.fits(1), 20);
        edge.is("forget(0)", fire.forget(0), 2);
        edge.is("count(4)", fire.count(4), 0);
        edge.is("nothing is felt: all fit", fire.fits(0), 100);
    }

    private static void fits(Supplier<EmberSpuds> made, int howMany, int least, int greatest) {
        edge.leaves("fits(0)", made, f -> f.fits(0), howMany);
        edge.leaves("fits(1)", made, f -> f.fits(1), least);
        edge.leaves("fits(2)", made, f -> f.fits(2), greatest);
        edge.leaves("fits(3)", made, f -> f.fits(3), -1);
        edge.leaves("fits(-1)", made, f -> f.fits(-1), -1);
    }

    private static Supplier<EmberSpuds> felt(String text, int... each) {
        return () -> {
            EmberSpuds fire = Due.told(text);
            for (int i = 0; i + 2 < each.length; i += 3) {
                fire.feel(each[i], each[i + 1], each[i + 2]);
            }
            return fire;
        };
    }

    private static void allFit() {
        edge.sentence("29 FALL and RIM (0 to 9 each) that FIT: of nothing FELT all 100, the least 0, the greatest 99");
        fits(felt("fire 4 9 9;"), 100, 0, 99);
        edge.sentence("29 what is cold stays so by all");
        fits(felt("fire 4 9 9;", 20, 4, 0), 100, 0, 99);
    }

    private static void noneFits() {
        edge.sentence("29 NONE (1, 2): none; BAD is the first that fits");
        fits(felt("heat 1 50 50 50;", 1, 4, 51), 0, -4, -4);
        fits(felt("heat 1 50 50 50;", 1, 4, 40), 0, -4, -4);
        fits(felt("heat 1 50 50 50;", 1, 4, 49, 1, 3, 48), 0, -4, -4);
        fits(felt("heat 0 50 0 0;", 1, 0, 31), 0, -4, -4);
    }

    private static void oneFits() {
        edge.sentence("29 the least as 10 times FALL and RIM (1), the greatest so (2)");
        for (int fall = 0; fall <= 9; fall += 9) {
            for (int rim = 0; rim <= 9; rim += 9) {
                fits(felt("heat 0 50 0 0;heat 1 50 0 0;", 1, 3, 50 - fall, 1, 0, 50 - fall - rim),
                        1, 10 * fall + rim, 10 * fall + rim);
            }
            fits(felt("heat 1 50 0 0;", 1, 3, 50 - fall), 10, 10 * fall, 10 * fall + 9);
        }
    }

    private static void behindNoRound() {
        edge.sentence("29 behind n ROUNDS (0 ..): what is so now");
        fits(felt("heat 1 50 0 0;", 0, 3, 50), 100, 0, 99);
        fits(felt("heat 1 50 0 0;", 0, 3, 49), 0, -4, -4);
        fits(felt("heat 1 50 0 0;", 0, 3, 51), 0, -4, -4);
    }

    private static void behindTwenty() {
        edge.sentence("29 behind n ROUNDS (.. to 20)");
        fits(felt("heat 1 99 0 0;", 20, 3, 79), 10, 10, 19);
        fits(felt("heat 1 99 0 0;", 19, 3, 80), 10, 10, 19);
        fits(felt("heat 1 99 0 0;", 20, 3, 80), 0, -4, -4);
        fits(felt("heat 1 99 0 0;", 20, 3, 19), 10, 40, 49);
        // By a fall of 5 it is cold behind 20, by 4 it is not.
        fits(felt("heat 1 99 0 0;", 20, 3, 0), 50, 50, 99);
        fits(felt("wood 1 90 9;", 20, 3, 78), 10, 10, 19);
        fits(felt("wood 1 90 9;", 8, 3, 0), 100, 0, 99);
        fits(felt("wood 1 90 9;", 9, 3, 81), 10, 90, 99);
    }

    private static void fallAndRim() {
        edge.sentence("29 in the first and the last CELL by RIM besides: FALL and RIM in all");
        int[] rims = {0, 9};
        for (int x : rims) {
            fits(felt("fire 4 0 0;heat 0 50 0 0;heat 3 50 0 0;", 1, x, 50), 1, 0, 0);
            fits(felt("fire 4 0 0;heat 0 50 0 0;heat 3 50 0 0;", 1, x, 49), 2, 1, 10);
            fits(felt("fire 4 0 0;heat 0 50 0 0;heat 3 50 0 0;", 1, x, 41), 10, 9, 90);
            fits(felt("fire 4 0 0;heat 0 50 0 0;heat 3 50 0 0;", 1, x, 40), 9, 19, 91);
            fits(felt("fire 4 0 0;heat 0 50 0 0;heat 3 50 0 0;", 1, x, 33), 2, 89, 98);
            fits(felt("fire 4 0 0;heat 0 50 0 0;heat 3 50 0 0;", 1, x, 32), 1, 99, 99);
            fits(felt("fire 4 0 0;heat 0 50 0 0;heat 3 50 0 0;", 1, x, 31), 0, -4, -4);
        }
    }

    private static void theRimAlone() {
        edge.sentence("29 (all else as it is): FALL and RIM as they are do not count, the CELLS do");
        fits(felt("fire 8 5 5;heat 6 50 0 0;", 1, 18, 43), 10, 70, 79);
        fits(felt("fire 7 5 5;heat 6 50 0 0;", 1, 18, 43), 8, 7, 70);
        EmberSpuds fire = felt("fire 4 5 5;heat 1 50 0 0;", 1, 3, 43).get();
        edge.is("fits(1)", fire.fits(1), 70);
        fire.ash(0, 0);
        fire.ash(1, 9);
        edge.is("fits(1) stays", fire.fits(1), 70);
        fire.fan(3, 51);
        edge.is("fits(1) by another heat", fire.fits(1), 80);
        fire.stoke(1, 1, 1);
        edge.is("fits(1) beside wood", fire.fits(1), 90);
    }
}
