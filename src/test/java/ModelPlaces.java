import java.util.Arrays;

/** Where to put which, by matching potatoes and places by chains of moves. */
final class ModelPlaces {
    private final boolean[][] isGood;
    private final int places;

    ModelPlaces(ModelState state, int n) {
        places = 3 * state.cells;
        // The last column is that of OUT.
        isGood = new boolean[state.potatoes.size()][places + 1];
        for (int p = 0; p < isGood.length; p++) {
            for (int x = 0; x <= places; x++) {
                ModelState then = state.twin();
                then.potatoes.get(p).place = x == places ? null : x;
                isGood[p][x] = then.behind(n).potatoes.get(p).isGood();
            }
        }
    }

    int most() {
        return most(new int[0]);
    }

    /** The place of a potato in the first of the best ways. */
    int place(int p) {
        int[] laid = new int[0];
        while (laid.length <= p) {
            int q = laid.length;
            laid = Arrays.copyOf(laid, q + 1);
            for (laid[q] = 0; most(laid) != most(); laid[q]++) {
                if (laid[q] > places) {
                    throw new IllegalStateException("no way is best");
                }
            }
        }
        return laid[p] == places ? -4 : laid[p];
    }

    /** The most that can be good when the first potatoes are laid so; -1 if two are in one place. */
    private int most(int[] laid) {
        int[] owner = new int[places];
        Arrays.fill(owner, -1);
        int good = 0;
        for (int p = 0; p < laid.length; p++) {
            good += isGood[p][laid[p]] ? 1 : 0;
            if (laid[p] < places) {
                if (owner[laid[p]] != -1) {
                    return -1;
                }
                owner[laid[p]] = p;
            }
        }
        for (int p = laid.length; p < isGood.length; p++) {
            if (isGood[p][places] || settle(p, laid.length, owner, new boolean[places])) {
                good++;
            }
        }
        return good;
    }

    /** Finds a place for p, moving those from movable on elsewhere. */
    private boolean settle(int p, int movable, int[] owner, boolean[] seen) {
        for (int x = 0; x < places; x++) {
            if (isGood[p][x] && !seen[x]) {
                seen[x] = true;
                boolean isFree = owner[x] == -1
                        || owner[x] >= movable && settle(owner[x], movable, owner, seen);
                if (isFree) {
                    owner[x] = p;
                    return true;
                }
            }
        }
        return false;
    }
}
