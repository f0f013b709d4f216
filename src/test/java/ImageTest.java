/** Promises 35 and 36: images. */
public final class ImageTest {
    private static final Due due = new Due("ImageTest");

    public static void main(String[] args) {
        refusals();
        allIsAsItWas();
        twoImages();
        due.close();
    }

    private static void refusals() {
        EmberSpuds fire = new EmberSpuds();
        due.is("keep(2)", fire.keep(2), -1);
        due.is("keep(-1)", fire.keep(-1), -1);
        due.is("back(2)", fire.back(2), -1);
        due.is("back(-1)", fire.back(-1), -1);
        due.is("back(0)", fire.back(0), -2);
        due.is("count(5)", fire.count(5), 0);
        due.is("keep(1)", fire.keep(1), 0);
        due.is("count(5)", fire.count(5), 1);
        due.is("back(0)", fire.back(0), -2);
        due.is("keep(1)", fire.keep(1), 1);
        due.is("keep(0)", fire.keep(0), 0);
        due.is("count(5)", fire.count(5), 2);
    }

    /** All that can be asked of the state, as one text. */
    private static String all(EmberSpuds fire) {
        StringBuilder all = new StringBuilder();
        for (int what = 0; what < 7; what++) {
            all.append(fire.rule(what)).append(' ');
        }
        for (int x = 0; x < 12; x++) {
            all.append(fire.heat(x)).append(' ');
        }
        for (int i = 0; i < fire.rule(3); i++) {
            for (int what = 0; what < 3; what++) {
                all.append(fire.wood(i, what)).append(' ');
            }
        }
        for (int p = 0; p < fire.rule(5); p++) {
            for (int what = 0; what < 10; what++) {
                all.append(fire.spud(p, what)).append(' ');
            }
        }
        all.append(fire.count(4)).append(' ').append(fire.fits(0)).append(' ').append(fire.fits(1));
        return all.toString();
    }

    private static void allIsAsItWas() {
        EmberSpuds fire = Due.told("fire 4 2 3;heat 1 80 60 40;wood 0 99 2;wood 3 9 9;spud 3 bare 3;"
                + "out 5 clay;memo 0 1;");
        fire.go(1);
        fire.rake(5, true);
        fire.feel(1, 4, 56);
        String was = all(fire);
        fire.keep(0);
        fire.sheet(0, 0, 5);
        fire.feed('a');
        fire.turn(0);
        fire.go(7);
        fire.fan(0, 99);
        fire.ash(0, 9);
        fire.ash(1, 9);
        fire.stoke(1, 1, 1);
        fire.add(9, 2);
        fire.dig(0, 0);
        fire.wrap(1, 0);
        fire.memo(0, 2);
        fire.memo(1, 0);
        fire.rake(5, false);
        fire.rake(6, true);
        fire.forget(0);
        fire.feel(2, 1, 1);
        fire.feel(2, 1, 1);
        due.holds("something is otherwise", !was.equals(all(fire)));
        due.is("back(0)", fire.back(0), 1);
        due.holds("all is as it was", was.equals(all(fire)));
        due.is("sheets are not of the image", fire.count(7), 5);
        due.is("the tape is not of the image", fire.count(6), 1);
        fire.go(3);
        due.is("the image stays", fire.back(0), 1);
        due.holds("all is as it was again", was.equals(all(fire)));
    }

    private static void twoImages() {
        EmberSpuds fire = Due.told("spud 3 bare 3;");
        fire.keep(0);
        fire.go(5);
        fire.add(1, 1);
        fire.keep(1);
        fire.go(6);
        due.is("back(0)", fire.back(0), 0);
        due.is("rule(5)", fire.rule(5), 1);
        due.is("back(1)", fire.back(1), 5);
        due.is("rule(5)", fire.rule(5), 2);
        fire.go(2);
        due.is("keep(0)", fire.keep(0), 1);
        due.is("back(1)", fire.back(1), 5);
        due.is("back(0)", fire.back(0), 7);
    }
}
