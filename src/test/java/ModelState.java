import java.util.ArrayList;
import java.util.List;
import java.util.TreeSet;

/** What a fire is, for the model: one that is asked for what comes behind some rounds. */
final class ModelState {
    static final class Potato {
        int size, wrap, core, down;
        final int[] sides = new int[2];
        Integer place, cell;

        Potato(int size, int wrap, Integer place) {
            this.size = size;
            this.wrap = wrap;
            this.place = place;
        }

        Potato twin() {
            Potato twin = new Potato(size, wrap, place);
            twin.core = core;
            twin.down = down;
            twin.sides[0] = sides[0];
            twin.sides[1] = sides[1];
            twin.cell = cell;
            return twin;
        }

        boolean isDone() {
            return core >= 10 * size;
        }

        boolean isBlack() {
            return sides[0] >= 40 || sides[1] >= 40;
        }

        boolean isGood() {
            return isDone() && !isBlack();
        }

        void bake(int heat) {
            core = Math.min(99, core + heat / new int[] {5, 7, 6}[wrap]);
            sides[down] = Math.min(99, sides[down] + heat / new int[] {8, 16, 12}[wrap]);
        }

        int told(int what) {
            int[] all = {size, wrap, place == null ? -4 : place, core, sides[down], sides[1 - down],
                isDone() ? 1 : 0, isBlack() ? 1 : 0, isGood() ? 1 : 0, cell == null ? -4 : cell};
            return what < 0 || what >= all.length ? -1 : all[what];
        }
    }

    int cells = 3, fall = 1, rim = 1, round = 0;
    final int[] heat = new int[24];
    final List<int[]> wood = new ArrayList<>();
    final List<Potato> potatoes = new ArrayList<>();
    final TreeSet<Integer> raked = new TreeSet<>();
    final List<int[]> felt = new ArrayList<>();

    ModelState twin() {
        ModelState twin = new ModelState();
        twin.cells = cells;
        twin.fall = fall;
        twin.rim = rim;
        twin.round = round;
        System.arraycopy(heat, 0, twin.heat, 0, heat.length);
        wood.forEach(w -> twin.wood.add(w.clone()));
        potatoes.forEach(p -> twin.potatoes.add(p.twin()));
        twin.raked.addAll(raked);
        twin.felt.addAll(felt);
        return twin;
    }

    ModelState behind(int rounds) {
        ModelState twin = twin();
        for (int r = 0; r < rounds; r++) {
            twin.pass();
        }
        return twin;
    }

    void pass() {
        for (Potato p : potatoes) {
            if (p.place != null) {
                p.bake(heat[p.place]);
            }
        }
        for (int[] w : wood) {
            w[2]--;
            for (int depth = 0; depth < 3 && w[2] == 0; depth++) {
                int x = 3 * w[0] + depth;
                heat[x] = Math.min(99, heat[x] + w[1] / new int[] {1, 2, 4}[depth]);
            }
        }
        wood.removeIf(w -> w[2] == 0);
        for (int x = 0; x < 3 * cells; x++) {
            boolean atRim = x < 3 || x >= 3 * cells - 3;
            heat[x] = Math.max(0, heat[x] - fall - (atRim ? rim : 0));
        }
        round++;
    }

    int good() {
        return (int) potatoes.stream().filter(Potato::isGood).count();
    }

    int black() {
        return (int) potatoes.stream().filter(Potato::isBlack).count();
    }

    boolean isTaken(int x) {
        return potatoes.stream().anyMatch(p -> p.place != null && p.place == x);
    }

    /** Whether in n rounds a place has a heat, by another fall and rim. */
    boolean fits(int otherFall, int otherRim) {
        ModelState twin = twin();
        twin.fall = otherFall;
        twin.rim = otherRim;
        return felt.stream().allMatch(f -> twin.behind(f[0]).heat[f[1]] == f[2]);
    }
}
