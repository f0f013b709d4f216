/** Promises 30 and 31: where potatoes lie by what is remembered and was raked. */
public final class MemoryTest {
    private static final Due due = new Due("MemoryTest");

    public static void main(String[] args) {
        lies();
        liesAtTheRim();
        next();
        nextOfNone();
        due.close();
    }

    private static void lies(EmberSpuds fire, int p, int x, long part, long whole) {
        due.is("lies(" + p + ", " + x + ", 0)", fire.lies(p, x, 0), part);
        due.is("lies(" + p + ", " + x + ", 1)", fire.lies(p, x, 1), whole);
    }

    private static void lies() {
        EmberSpuds fire = Due.told("fire 5 1 1;spud 1 bare 14;out 1 bare;memo 0 2;");
        lies(fire, 0, 6, 1, 6);
        lies(fire, 0, 8, 1, 6);
        lies(fire, 0, 5, 1, 12);
        lies(fire, 0, 9, 1, 12);
        lies(fire, 0, 2, 0, 1);
        lies(fire, 0, 14, 0, 1);
        fire.rake(6, true);
        fire.rake(3, true);
        fire.rake(0, true);
        lies(fire, 0, 7, 2, 9);
        lies(fire, 0, 4, 1, 9);
        lies(fire, 0, 6, 0, 1);
        due.is("nothing is remembered", fire.lies(1, 0, 0), -2);
        due.is("lies(2, 0, 0)", fire.lies(2, 0, 0), -1);
        due.is("lies(-1, 0, 0)", fire.lies(-1, 0, 0), -1);
        due.is("lies(1, 15, 0)", fire.lies(1, 15, 0), -1);
        due.is("lies(1, -1, 0)", fire.lies(1, -1, 0), -1);
        due.is("lies(1, 0, 2)", fire.lies(1, 0, 2), -1);
        due.is("lies(1, 0, -1)", fire.lies(1, 0, -1), -1);
        for (int x = 3; x < 12; x++) {
            fire.rake(x, x != 11);
        }
        lies(fire, 0, 11, 1, 1);
        lies(fire, 0, 10, 0, 1);
        fire.rake(11, true);
        due.is("it lies nowhere", fire.lies(0, 11, 0), -4);
        due.is("it lies nowhere", fire.lies(0, 0, 1), -4);
    }

    private static void liesAtTheRim() {
        EmberSpuds fire = Due.told("fire 8 1 1;out 1 bare;out 1 bare;memo 0 0;memo 1 7;");
        lies(fire, 0, 0, 2, 9);
        lies(fire, 0, 3, 1, 9);
        lies(fire, 0, 6, 0, 1);
        lies(fire, 0, 23, 0, 1);
        lies(fire, 1, 23, 2, 9);
        lies(fire, 1, 18, 1, 9);
        lies(fire, 1, 17, 0, 1);
    }

    private static void next(EmberSpuds fire, long place, long part, long whole) {
        due.is("next(0)", fire.next(0), place);
        due.is("next(1)", fire.next(1), part);
        due.is("next(2)", fire.next(2), whole);
    }

    private static void next() {
        EmberSpuds fire = Due.told("out 1 bare;out 1 bare;out 1 bare;memo 0 1;memo 1 0;");
        next(fire, 0, 11, 36);
        fire.rake(0, true);
        next(fire, 1, 29, 77);
        fire.memo(1, -4);
        next(fire, 3, 2, 11);
        fire.memo(1, 1);
        fire.memo(2, 1);
        next(fire, 3, 6, 11);
        fire.memo(0, 0);
        fire.memo(1, 0);
        fire.memo(2, 0);
        fire.rake(1, true);
        next(fire, 2, 6, 5);
        due.is("next(3)", fire.next(3), -1);
        due.is("next(-1)", fire.next(-1), -1);
    }

    private static void nextOfNone() {
        EmberSpuds fire = Due.told("fire 4 1 1;out 1 bare;out 1 bare;");
        next(fire, -4, -4, -4);
        fire.memo(0, 0);
        for (int x = 0; x < 6; x++) {
            fire.rake(x, true);
        }
        next(fire, -4, -4, -4);
        due.is("next(3) of none", fire.next(3), -1);
        fire.memo(1, 3);
        next(fire, 9, 2, 9);
    }
}
