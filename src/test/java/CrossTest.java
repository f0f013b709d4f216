import java.util.Random;

/**
 * Random fires: what the planning calls answer (promises 20 to 26, 29 to 31) is compared with what
 * comes out when every way is tried by the calls that change things.
 */
public final class CrossTest {
    private static final Due due = new Due("CrossTest");
    private static final Random random = new Random(20261118);

    public static void main(String[] args) {
        for (int i = 0; i < 400; i++) {
            EmberSpuds fire = randomFire(3 + below(6), below(7));
            watch(fire);
            flip(fire);
            least(fire);
            best(fire);
            fits(fire);
            next(fire);
        }
        for (int i = 0; i < 150; i++) {
            places(randomFire(3 + below(2), below(5)));
        }
        for (int i = 0; i < 12; i++) {
            places(randomFire(3, 6));
        }
        due.close();
    }

    private static int below(int n) {
        return random.nextInt(n);
    }

    private static EmberSpuds randomFire(int cells, int spuds) {
        EmberSpuds fire = new EmberSpuds();
        int most = 1 + below(99);
        Due.tell(fire, "fire " + cells + " " + below(4) + " " + below(5) + ";");
        for (int x = 0; x < 3 * cells; x++) {
            fire.fan(x, below(most + 1));
        }
        for (int i = below(7); i > 0; i--) {
            fire.stoke(below(cells), 1 + below(99), 1 + below(9));
        }
        for (int p = spuds; p > 0; p--) {
            fire.add(1 + below(6), below(3));
            fire.dig(fire.rule(5) - 1, below(3 * cells));
            fire.memo(fire.rule(5) - 1, below(cells + 1) - 1);
        }
        fire.go(below(4));
        for (int p = 0; p < fire.rule(5); p++) {
            if (below(2) == 0) {
                fire.turn(p);
            }
            if (below(6) == 0) {
                fire.dig(p, EmberSpuds.NONE);
            }
        }
        for (int i = below(12); i > 0; i--) {
            fire.rake(below(3 * cells), true);
        }
        fire.go(below(3));
        return fire;
    }

    private static void watch(EmberSpuds fire) {
        fire.keep(0);
        int spuds = fire.rule(5);
        int n = below(61);
        for (int p = 0; p < spuds; p++) {
            int[] first = {-4, -4};
            int good = 0;
            for (int r = 0; r <= 40; r++) {
                for (int what = 0; what < 2; what++) {
                    if (first[what] == -4 && fire.spud(p, 6 + what) == 1) {
                        first[what] = r;
                    }
                }
                good += fire.spud(p, 8);
                fire.go(1);
            }
            fire.back(0);
            due.is("when(p, 0)", fire.when(p, 0), first[0]);
            due.is("when(p, 1)", fire.when(p, 1), first[1]);
            due.is("when(p, 2)", fire.when(p, 2), good);
            for (int what = 0; what < 10; what++) {
                int answer = fire.ahead(p, n, what);
                fire.go(n);
                due.is("ahead(p, n, " + what + ")", answer, fire.spud(p, what));
                fire.back(0);
            }
        }
        int x = below(3 * fire.rule(0));
        int answer = fire.later(x, n);
        fire.go(n);
        due.is("later(x, n)", answer, fire.heat(x));
        fire.back(0);
    }

    private static void flip(EmberSpuds fire) {
        fire.keep(0);
        for (int p = 0; p < fire.rule(5); p++) {
            int n = 1 + below(20);
            int first = -4;
            for (int r = n - 1; r >= 0; r--) {
                fire.go(r);
                fire.turn(p);
                fire.go(n - r);
                first = fire.spud(p, 8) == 1 ? r : first;
                fire.back(0);
            }
            due.is("flip(p, " + n + ")", fire.flip(p, n), first);
        }
    }

    private static void least(EmberSpuds fire) {
        fire.keep(0);
        fire.go(fire.rule(3) == 6 ? 9 : 0);
        fire.keep(1);
        for (int p = 0; p < fire.rule(5); p++) {
            int n = 1 + below(20);
            int place = fire.spud(p, 2);
            int answer = fire.least(p, n);
            int first = place == -4 ? -2 : -4;
            for (int amount = 0; amount <= 99 && first == -4; amount++) {
                if (amount > 0) {
                    fire.stoke(place / 3, amount, 1);
                }
                fire.go(n);
                first = fire.spud(p, 6) == 1 ? amount : -4;
                fire.back(1);
            }
            due.is("least(p, " + n + ")", answer, first);
        }
        fire.back(0);
    }

    private static void best(EmberSpuds fire) {
        fire.keep(0);
        int most = -1;
        int first = 0;
        for (int n = 0; n <= 20; n++) {
            int good = fire.go(n == 0 ? 0 : 1);
            if (good > most) {
                most = good;
                first = n;
            }
        }
        fire.back(0);
        due.is("best(0)", fire.best(0), first);
        due.is("best(1)", fire.best(1), most);
    }

    private static void fits(EmberSpuds fire) {
        fire.forget(0);
        int[][] felt = new int[1 + below(3)][];
        for (int i = 0; i < felt.length; i++) {
            int x = below(3 * fire.rule(0));
            int n = below(21);
            int off = below(20) == 0 ? 1 : 0;
            felt[i] = new int[] {n, x, Math.max(0, fire.later(x, n) - off)};
            due.is("feel", fire.feel(n, x, felt[i][2]), i + 1);
        }
        int howMany = 0;
        int least = -4;
        int greatest = -4;
        fire.keep(0);
        for (int pair = 0; pair < 100; pair++) {
            fire.ash(0, pair / 10);
            fire.ash(1, pair % 10);
            boolean isSo = true;
            for (int[] f : felt) {
                isSo &= fire.later(f[1], f[0]) == f[2];
            }
            if (isSo) {
                howMany++;
                least = least == -4 ? pair : least;
                greatest = pair;
            }
        }
        fire.back(0);
        due.is("fits(0)", fire.fits(0), howMany);
        due.is("fits(1)", fire.fits(1), least);
        due.is("fits(2)", fire.fits(2), greatest);
    }

    /** The means by fractions added one by one, over a denominator that every one divides. */
    private static void next(EmberSpuds fire) {
        long best = 0;
        long place = -4;
        for (int x = 0; x < 3 * fire.rule(0); x++) {
            long sum = 0;
            for (int p = 0; p < fire.rule(5); p++) {
                long part = fire.lies(p, x, 0);
                long whole = fire.lies(p, x, 1);
                sum += part > 0 ? 5354228880L / whole * part : 0;
            }
            if (sum > best) {
                best = sum;
                place = x;
            }
        }
        due.is("next(0)", fire.next(0), place);
        if (place != -4) {
            due.is("next(1) by next(2)", fire.next(1) * 5354228880L, best * fire.next(2));
            due.is("lowest terms", gcd(fire.next(1), fire.next(2)), 1);
        }
        for (int p = 0; p < fire.rule(5); p++) {
            if (fire.lies(p, 0, 0) >= 0) {
                double all = 0;
                for (int x = 0; x < 3 * fire.rule(0); x++) {
                    all += (double) fire.lies(p, x, 0) / fire.lies(p, x, 1);
                }
                due.holds("it lies somewhere", Math.abs(all - 1) < 1e-9);
            }
        }
    }

    private static long gcd(long a, long b) {
        return b == 0 ? a : gcd(b, a % b);
    }

    private static void places(EmberSpuds fire) {
        int n = below(21);
        int spuds = fire.rule(5);
        int[] answers = new int[spuds];
        int most = fire.places(n, 0);
        for (int p = 0; p < spuds; p++) {
            answers[p] = fire.places(n, 10 + p);
        }
        boolean[][] isGood = goodPlaces(fire, n);
        int options = 3 * fire.rule(0) + 1;
        int ways = 1;
        for (int p = 0; p < spuds; p++) {
            ways *= options;
        }
        int best = -1;
        int bestWay = 0;
        for (int way = 0; way < ways; way++) {
            int good = goodOf(way, isGood, options);
            if (good > best) {
                best = good;
                bestWay = way;
            }
        }
        due.is("places(n, 0)", most, best);
        for (int p = spuds - 1; p >= 0; p--) {
            int option = bestWay % options;
            bestWay /= options;
            due.is("places(n, 10 + p)", answers[p], option == options - 1 ? -4 : option);
        }
    }

    /** How many are good in a way (its first potato the highest figure), -1 if two lie in one place. */
    private static int goodOf(int way, boolean[][] isGood, int options) {
        int rest = way;
        int good = 0;
        int taken = 0;
        for (int p = isGood.length - 1; p >= 0; p--) {
            int option = rest % options;
            rest /= options;
            if (option < options - 1) {
                if ((taken & 1 << option) != 0) {
                    return -1;
                }
                taken |= 1 << option;
            }
            good += isGood[p][option] ? 1 : 0;
        }
        return good;
    }

    private static boolean[][] goodPlaces(EmberSpuds fire, int n) {
        int spuds = fire.rule(5);
        int places = 3 * fire.rule(0);
        boolean[][] isGood = new boolean[spuds][places + 1];
        fire.keep(0);
        for (int p = 0; p < spuds; p++) {
            for (int x = 0; x <= places; x++) {
                for (int q = 0; q < spuds; q++) {
                    fire.dig(q, EmberSpuds.NONE);
                }
                fire.dig(p, x == places ? EmberSpuds.NONE : x);
                fire.go(n);
                isGood[p][x] = fire.spud(p, 8) == 1;
                fire.back(0);
            }
        }
        return isGood;
    }
}
