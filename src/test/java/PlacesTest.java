import java.util.Random;

/** Promise 23 on random fires: what places() answers, against trying every way to lay all potatoes. */
public final class PlacesTest {
    private static final Due due = new Due("PlacesTest");
    private static final Random random = new Random(20261118);

    public static void main(String[] args) {
        for (int i = 0; i < 200; i++) {
            places(randomFire(3 + below(2), below(5)));
        }
        for (int i = 0; i < 12; i++) {
            places(randomFire(3, 6));
        }
        due.close();
    }

    private static int below(int n) {
        return random.nextInt(n);
    }

    private static EmberSpuds randomFire(int cells, int spuds) {
        EmberSpuds fire = Due.told("fire " + cells + " " + below(4) + " " + below(5) + ";");
        int most = 1 + below(99);
        for (int x = 0; x < 3 * cells; x++) {
            fire.fan(x, below(most + 1));
        }
        for (int i = below(7); i > 0; i--) {
            fire.stoke(below(cells), 1 + below(99), 1 + below(9));
        }
        for (int p = 0; p < spuds; p++) {
            fire.add(1 + below(6), below(3));
            fire.dig(p, below(3 * cells));
        }
        fire.go(below(4));
        for (int p = 0; p < spuds; p++) {
            if (below(2) == 0) {
                fire.turn(p);
            }
            if (below(6) == 0) {
                fire.dig(p, EmberSpuds.NONE);
            }
        }
        fire.go(below(3));
        return fire;
    }

    private static void places(EmberSpuds fire) {
        int n = below(21);
        int spuds = fire.rule(5);
        int[] answers = new int[spuds];
        int most = fire.places(n, 0);
        for (int p = 0; p < spuds; p++) {
            answers[p] = fire.places(n, 10 + p);
        }
        boolean[][] isGood = goodPlaces(fire, n);
        int options = 3 * fire.rule(0) + 1;
        int ways = 1;
        for (int p = 0; p < spuds; p++) {
            ways *= options;
        }
        int best = -1;
        int bestWay = 0;
        for (int way = 0; way < ways; way++) {
            int good = goodOf(way, isGood, options);
            if (good > best) {
                best = good;
                bestWay = way;
            }
        }
        due.is("places(n, 0)", most, best);
        for (int p = spuds - 1; p >= 0; p--) {
            int option = bestWay % options;
            bestWay /= options;
            due.is("places(n, 10 + p)", answers[p], option == options - 1 ? -4 : option);
        }
    }

    /** How many are good in a way (its first potato the highest figure), -1 if two lie in one place. */
    private static int goodOf(int way, boolean[][] isGood, int options) {
        int rest = way;
        int good = 0;
        int taken = 0;
        for (int p = isGood.length - 1; p >= 0; p--) {
            int option = rest % options;
            rest /= options;
            if (option < options - 1) {
                if ((taken & 1 << option) != 0) {
                    return -1;
                }
                taken |= 1 << option;
            }
            good += isGood[p][option] ? 1 : 0;
        }
        return good;
    }

    /** For each potato whether it is good in each place, laid there alone, and last when it is out. */
    private static boolean[][] goodPlaces(EmberSpuds fire, int n) {
        int spuds = fire.rule(5);
        int places = 3 * fire.rule(0);
        boolean[][] isGood = new boolean[spuds][places + 1];
        for (int p = 0; p < spuds; p++) {
            fire.dig(p, EmberSpuds.NONE);
        }
        for (int p = 0; p < spuds; p++) {
            for (int x = 0; x < places; x++) {
                fire.dig(p, x);
                isGood[p][x] = fire.ahead(p, n, 8) == 1;
            }
            fire.dig(p, EmberSpuds.NONE);
            isGood[p][places] = fire.ahead(p, n, 8) == 1;
        }
        return isGood;
    }
}
