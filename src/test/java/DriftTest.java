/** Promise 34: an evening by itself, by a seed. */
public final class DriftTest {
    private static final Due due = new Due("DriftTest");

    public static void main(String[] args) {
        seedTwo();
        refusals();
        bySingleRounds();
        due.close();
    }

    /**
     * With two potatoes the seed 2 does: nothing three times; 0 is taken out if it is done; nothing;
     * 1 is turned; nothing twice; 1 is turned; 0 is taken out if it is done.
     */
    private static void seedTwo() {
        EmberSpuds fire = Due.told("fire 3 0 0;heat 1 80 48 0;spud 4 bare 3;spud 7 bare 4;");
        int[] good = {0, 0, 1, 1, 1, 1, 1, 2, 2, 1};
        int[] black = {0, 0, 0, 0, 0, 0, 0, 0, 0, 1};
        for (int n = 1; n <= 10; n++) {
            due.is("drift(2, " + n + ", 0)", fire.drift(2, n, 0), good[n - 1]);
            due.is("drift(2, " + n + ", 1)", fire.drift(2, n, 1), black[n - 1]);
        }
        EmberSpuds late = Due.told("fire 3 0 0;heat 1 80 48 0;spud 5 bare 3;spud 7 bare 4;");
        due.is("not done, not taken out", late.drift(2, 4, 1), 1);
        due.is("by itself", fire.rule(4), 0);
        due.is("nothing baked", fire.spud(0, 3), 0);
        due.is("nothing dug", fire.spud(0, 2), 3);
    }

    private static void refusals() {
        EmberSpuds fire = new EmberSpuds();
        due.is("no potatoes", fire.drift(1, 1, 0), -2);
        due.is("no potatoes, bad n", fire.drift(1, 0, 0), -1);
        due.is("no potatoes, bad what", fire.drift(1, 1, 2), -1);
        fire.add(1, 0);
        due.is("n 0", fire.drift(1, 0, 0), -1);
        due.is("n 61", fire.drift(1, 61, 0), -1);
        due.is("what 2", fire.drift(1, 1, 2), -1);
        due.is("what -1", fire.drift(1, 1, -1), -1);
        due.is("n 60", fire.drift(1, 60, 0), 0);
    }

    private static void bySingleRounds() {
        String[] texts = {
            "fire 3 0 0;heat 0 60 50 40;heat 1 80 48 30;spud 4 bare 0;spud 7 clay 4;spud 2 foil 5;",
            "fire 4 1 2;heat 1 99 90 80;heat 2 60 60 60;wood 1 50 4;spud 9 clay 4;spud 8 foil 7;spud 1 bare 8;"
                + "spud 3 bare 5;out 4 bare;spud 6 foil 3;"};
        int[] seeds = {0, 1, -1, 7, 12345, -987654321, Integer.MAX_VALUE, Integer.MIN_VALUE};
        for (String text : texts) {
            for (int seed : seeds) {
                for (int n = 1; n <= 60; n += 7) {
                    EmberSpuds fire = Due.told(text);
                    int good = fire.drift(seed, n, 0);
                    int black = fire.drift(seed, n, 1);
                    byHand(fire, seed, n);
                    due.is("drift(" + seed + ", " + n + ", 0)", good, fire.count(2));
                    due.is("drift(" + seed + ", " + n + ", 1)", black, fire.count(1));
                }
            }
        }
    }

    private static void byHand(EmberSpuds fire, int seed, int n) {
        long state = seed & 0xffffffffL;
        for (int r = 0; r < n; r++) {
            state = (state * 1103515245L + 12345L) % (1L << 32);
            int p = (int) (state / 65536 % 32768 % fire.rule(5));
            state = (state * 1103515245L + 12345L) % (1L << 32);
            int deed = (int) (state / 65536 % 32768 % 3);
            if (deed == 0) {
                fire.turn(p);
            }
            if (deed == 1 && fire.spud(p, 6) == 1) {
                fire.dig(p, EmberSpuds.NONE);
            }
            fire.go(1);
        }
    }
}
