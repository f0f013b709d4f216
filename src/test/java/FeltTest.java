/** Promises 27 to 29: what was felt, and the fall and rim that fit it. */
public final class FeltTest {
    private static final Due due = new Due("FeltTest");

    public static void main(String[] args) {
        feeling();
        fitting();
        fittingBesideWood();
        fromNowOn();
        due.close();
    }

    private static void fits(EmberSpuds fire, String when, int howMany, int least, int greatest) {
        due.is("fits(0) " + when, fire.fits(0), howMany);
        due.is("fits(1) " + when, fire.fits(1), least);
        due.is("fits(2) " + when, fire.fits(2), greatest);
    }

    private static void feeling() {
        EmberSpuds fire = new EmberSpuds();
        int[][] bad = {{-1, 0, 0}, {21, 0, 0}, {0, 9, 0}, {0, -1, 0}, {0, 0, 100}, {0, 0, -1}};
        for (int[] b : bad) {
            due.is("a bad feel", fire.feel(b[0], b[1], b[2]), -1);
        }
        due.is("count(4)", fire.count(4), 0);
        for (int i = 1; i <= 6; i++) {
            due.is("feel(20, 8, 0)", fire.feel(20, 8, 0), i);
        }
        due.is("the 7th", fire.feel(0, 0, 0), -3);
        due.is("the 7th, bad", fire.feel(21, 0, 0), -1);
        due.is("count(4)", fire.count(4), 6);
        due.is("forget(7)", fire.forget(7), -1);
        due.is("forget(-1)", fire.forget(-1), -1);
        due.is("forget(6)", fire.forget(6), 6);
        due.is("forget(2)", fire.forget(2), 6);
        due.is("forget(3)", fire.forget(3), -1);
        due.is("count(4)", fire.count(4), 2);
        due.is("forget(0)", fire.forget(0), 2);
        due.is("forget(0)", fire.forget(0), 0);
    }

    private static void fitting() {
        EmberSpuds fire = Due.told("fire 4 9 9;heat 0 90 0 0;heat 1 80 60 40;heat 3 50 0 0;");
        fits(fire, "of nothing felt", 100, 0, 99);
        fire.feel(1, 3, 78);
        fits(fire, "of fall 2", 10, 20, 29);
        fire.feel(3, 0, 75);
        fits(fire, "of fall 2 and 5 in all", 1, 23, 23);
        fire.feel(2, 9, 40);
        fits(fire, "of the last cell", 1, 23, 23);
        fire.feel(1, 4, 59);
        fits(fire, "of none", 0, -4, -4);
        fire.forget(0);
        fire.feel(3, 0, 75);
        fits(fire, "of 5 in all", 6, 5, 50);
        fire.forget(0);
        fire.feel(20, 5, 0);
        fits(fire, "of all that fall 2 or more", 80, 20, 99);
        fire.forget(0);
        fire.feel(0, 5, 40);
        fits(fire, "of what is so now", 100, 0, 99);
        fire.feel(0, 5, 41);
        fits(fire, "of what is not so now", 0, -4, -4);
        due.is("fits(3)", fire.fits(3), -1);
        due.is("fits(-1)", fire.fits(-1), -1);
        due.is("fall stays", fire.rule(1), 9);
        due.is("rim stays", fire.rule(2), 9);
        due.is("heat stays", fire.heat(3), 80);
    }

    private static void fittingBesideWood() {
        EmberSpuds fire = Due.told("heat 1 80 60 40;wood 1 30 2;wood 1 11 1;wood 0 99 1;");
        fire.feel(2, 3, 96);
        fits(fire, "of fall 3", 10, 30, 39);
        fire.feel(2, 4, 74);
        fits(fire, "of halves", 10, 30, 39);
        fire.feel(2, 5, 43);
        fits(fire, "of quarters", 10, 30, 39);
        fire.feel(1, 0, 90);
        fits(fire, "of the rim", 1, 36, 36);
    }

    private static void fromNowOn() {
        EmberSpuds fire = Due.told("fire 4 2 3;heat 1 80 60 40;");
        fire.feel(5, 3, 70);
        fits(fire, "ahead", 10, 20, 29);
        fire.go(1);
        fits(fire, "behind a round", 0, -4, -4);
        fire.fan(3, 90);
        fits(fire, "of a heat that was fanned", 10, 40, 49);
    }
}
