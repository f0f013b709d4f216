import java.util.ArrayList;
import java.util.List;

/**
 * The document once more, in the plainest form: by lists, by trying every way, by the machine's own
 * rows and faults. It shares nothing with the class; ModelTest asks both.
 */
final class Model {
    private static final int BAD = -1, STATE = -2, FULL = -3, NONE = -4;

    private ModelState now = new ModelState();
    private final ModelState[] images = new ModelState[2];
    private final Object[] sheets = new Object[4];
    private final StringBuilder tape = new StringBuilder();
    private int fault, torn;

    private boolean isPotato(int p) {
        return in(p, 0, now.potatoes.size() - 1);
    }

    private boolean isPlace(int x) {
        return in(x, 0, 3 * now.cells - 1);
    }

    private boolean isCell(int c) {
        return in(c, 0, now.cells - 1);
    }

    private static boolean in(int v, int low, int high) {
        return v >= low && v <= high;
    }

    int feed(int c) {
        if (!in(c, 0, 127)) {
            return BAD;
        }
        return tape.length() == 160 ? FULL : tape.append((char) c).length();
    }

    int end(int n) {
        if (!in(n, 0, tape.length())) {
            return BAD;
        }
        int had = tape.length();
        tape.setLength(n);
        return had;
    }

    int text() {
        ModelText text = new ModelText(tape.toString());
        tape.setLength(0);
        try {
            int lines = text.read();
            fault = 0;
            now = text.told;
            images[0] = null;
            images[1] = null;
            return lines;
        } catch (ModelText.Fault met) {
            fault = met.kind;
            return -10 - met.place;
        }
    }

    int fault() {
        return fault;
    }

    int rule(int what) {
        int bits = 0;
        for (int x : now.raked) {
            bits += 1 << x;
        }
        int[] all = {now.cells, now.fall, now.rim, now.wood.size(), now.round, now.potatoes.size(), bits};
        return in(what, 0, 6) ? all[what] : BAD;
    }

    int heat(int x) {
        return isPlace(x) ? now.heat[x] : BAD;
    }

    int wood(int i, int what) {
        return in(i, 0, now.wood.size() - 1) && in(what, 0, 2) ? now.wood.get(i)[what] : BAD;
    }

    int spud(int p, int what) {
        return isPotato(p) ? now.potatoes.get(p).told(what) : BAD;
    }

    int fan(int x, int v) {
        if (!isPlace(x) || !in(v, 0, 99)) {
            return BAD;
        }
        int was = now.heat[x];
        now.heat[x] = v;
        return was;
    }

    int ash(int what, int v) {
        if (!in(what, 0, 1) || !in(v, 0, 9)) {
            return BAD;
        }
        int was = what == 0 ? now.fall : now.rim;
        now.fall = what == 0 ? v : now.fall;
        now.rim = what == 1 ? v : now.rim;
        return was;
    }

    int stoke(int c, int amount, int rounds) {
        if (!isCell(c) || !in(amount, 1, 99) || !in(rounds, 1, 9)) {
            return BAD;
        }
        if (now.wood.size() == 6) {
            return FULL;
        }
        now.wood.add(new int[] {c, amount, rounds});
        return now.wood.size();
    }

    int add(int size, int wrap) {
        if (!in(size, 1, 9) || !in(wrap, 0, 2)) {
            return BAD;
        }
        if (now.potatoes.size() == 6) {
            return FULL;
        }
        now.potatoes.add(new ModelState.Potato(size, wrap, null));
        return now.potatoes.size();
    }

    int dig(int p, int x) {
        if (!isPotato(p) || x != NONE && !isPlace(x)) {
            return BAD;
        }
        ModelState.Potato potato = now.potatoes.get(p);
        Integer was = potato.place;
        potato.place = null;
        if (x != NONE && now.isTaken(x)) {
            potato.place = was;
            return STATE;
        }
        potato.place = x == NONE ? null : x;
        return was == null ? NONE : was;
    }

    int turn(int p) {
        if (!isPotato(p)) {
            return BAD;
        }
        ModelState.Potato potato = now.potatoes.get(p);
        potato.down = 1 - potato.down;
        return potato.sides[potato.down];
    }

    int wrap(int p, int w) {
        if (!isPotato(p) || !in(w, 0, 2)) {
            return BAD;
        }
        int was = now.potatoes.get(p).wrap;
        now.potatoes.get(p).wrap = w;
        return was;
    }

    int memo(int p, int c) {
        if (!isPotato(p) || c != NONE && !isCell(c)) {
            return BAD;
        }
        Integer was = now.potatoes.get(p).cell;
        now.potatoes.get(p).cell = c == NONE ? null : c;
        return was == null ? NONE : was;
    }

    int rake(int x, boolean is) {
        if (!isPlace(x)) {
            return BAD;
        }
        boolean was = now.raked.contains(x);
        if (is) {
            now.raked.add(x);
        } else {
            now.raked.remove(x);
        }
        return was ? 1 : 0;
    }

    int go(int n) {
        if (!in(n, 0, 60)) {
            return BAD;
        }
        if (now.round + n > 999) {
            return FULL;
        }
        now = now.behind(n);
        return now.good();
    }

    int ahead(int p, int n, int what) {
        return isPotato(p) && in(n, 0, 60) ? now.behind(n).potatoes.get(p).told(what) : BAD;
    }

    int later(int x, int n) {
        return isPlace(x) && in(n, 0, 60) ? now.behind(n).heat[x] : BAD;
    }

    int when(int p, int what) {
        if (!isPotato(p) || !in(what, 0, 2)) {
            return BAD;
        }
        List<Integer> rounds = new ArrayList<>();
        for (int n = 0; n <= 40; n++) {
            if (now.behind(n).potatoes.get(p).told(6 + what) == 1) {
                rounds.add(n);
            }
        }
        if (what == 2) {
            return rounds.size();
        }
        return rounds.isEmpty() ? NONE : rounds.get(0);
    }

    int places(int n, int what) {
        if (!in(n, 0, 20) || what != 0 && !isPotato(what - 10)) {
            return BAD;
        }
        ModelPlaces ways = new ModelPlaces(now, n);
        return what == 0 ? ways.most() : ways.place(what - 10);
    }

    int flip(int p, int n) {
        if (!isPotato(p) || !in(n, 1, 20)) {
            return BAD;
        }
        for (int r = 0; r < n; r++) {
            ModelState then = now.behind(r);
            then.potatoes.get(p).down = 1 - then.potatoes.get(p).down;
            if (then.behind(n - r).potatoes.get(p).isGood()) {
                return r;
            }
        }
        return NONE;
    }

    int least(int p, int n) {
        if (!isPotato(p) || !in(n, 1, 20)) {
            return BAD;
        }
        Integer place = now.potatoes.get(p).place;
        if (place == null) {
            return STATE;
        }
        for (int amount = 0; amount <= 99; amount++) {
            ModelState then = now.twin();
            then.wood.add(new int[] {place / 3, amount, 1});
            if (then.behind(n).potatoes.get(p).isDone()) {
                return amount;
            }
        }
        return NONE;
    }

    int best(int what) {
        if (!in(what, 0, 1)) {
            return BAD;
        }
        int best = 0;
        for (int n = 20; n >= 0; n--) {
            best = now.behind(n).good() >= now.behind(best).good() ? n : best;
        }
        return what == 0 ? best : now.behind(best).good();
    }

    int feel(int n, int x, int v) {
        if (!in(n, 0, 20) || !isPlace(x) || !in(v, 0, 99)) {
            return BAD;
        }
        if (now.felt.size() == 6) {
            return FULL;
        }
        now.felt.add(new int[] {n, x, v});
        return now.felt.size();
    }

    int forget(int n) {
        if (!in(n, 0, now.felt.size())) {
            return BAD;
        }
        int were = now.felt.size();
        now.felt.subList(n, were).clear();
        return were;
    }

    int fits(int what) {
        if (!in(what, 0, 2)) {
            return BAD;
        }
        List<Integer> pairs = new ArrayList<>();
        for (int pair = 0; pair < 100; pair++) {
            if (now.fits(pair / 10, pair % 10)) {
                pairs.add(pair);
            }
        }
        if (what == 0) {
            return pairs.size();
        }
        return pairs.isEmpty() ? NONE : pairs.get(what == 1 ? 0 : pairs.size() - 1);
    }

    /** The places in which a potato may lie, each as often as it is likely. */
    private List<Integer> lots(ModelState.Potato potato) {
        List<Integer> lots = new ArrayList<>();
        for (int x = 0; x < 3 * now.cells; x++) {
            if (!now.raked.contains(x) && Math.abs(x / 3 - potato.cell) <= 1) {
                lots.add(x);
                if (x / 3 == potato.cell) {
                    lots.add(x);
                }
            }
        }
        return lots;
    }

    private static long share(List<Integer> lots, int x) {
        return lots.stream().filter(lot -> lot == x).count();
    }

    private static long part(long above, long below, int which) {
        long by = below;
        for (long a = above, b = below; a != 0; ) {
            long rest = b % a;
            b = a;
            a = rest;
            by = b;
        }
        return (which == 0 ? above : below) / by;
    }

    long lies(int p, int x, int what) {
        if (!isPotato(p) || !isPlace(x) || !in(what, 0, 1)) {
            return BAD;
        }
        if (now.potatoes.get(p).cell == null) {
            return STATE;
        }
        List<Integer> lots = lots(now.potatoes.get(p));
        return lots.isEmpty() ? NONE : part(share(lots, x), lots.size(), what);
    }

    long next(int what) {
        if (!in(what, 0, 2)) {
            return BAD;
        }
        long[] means = new long[3 * now.cells];
        // The product of the numbers of lots of six potatoes, 12 each at most, is a common divisor.
        long whole = 1;
        List<List<Integer>> all = new ArrayList<>();
        for (ModelState.Potato potato : now.potatoes) {
            List<Integer> lots = potato.cell == null ? new ArrayList<>() : lots(potato);
            if (!lots.isEmpty()) {
                all.add(lots);
                whole *= lots.size();
            }
        }
        if (all.isEmpty()) {
            return NONE;
        }
        int best = 0;
        for (int x = 0; x < means.length; x++) {
            for (List<Integer> lots : all) {
                means[x] += share(lots, x) * (whole / lots.size());
            }
            best = means[x] > means[best] ? x : best;
        }
        return what == 0 ? best : part(means[best], whole, what - 1);
    }

    int takes(int k) {
        if (k < 0) {
            return BAD;
        }
        List<ModelState.Potato> left = new ArrayList<>(now.potatoes);
        for (int child = 0; !left.isEmpty(); child++) {
            ModelState.Potato pick = choice(left);
            if (child == k) {
                return now.potatoes.indexOf(pick);
            }
            left.remove(pick);
        }
        return NONE;
    }

    private static ModelState.Potato choice(List<ModelState.Potato> left) {
        ModelState.Potato pick = null;
        for (ModelState.Potato p : left) {
            if (p.isGood() && (pick == null || p.size > pick.size)) {
                pick = p;
            }
        }
        for (ModelState.Potato p : left) {
            if (!p.isBlack() && (pick == null || !pick.isGood() && p.core > pick.core)) {
                pick = p;
            }
        }
        return pick == null ? left.get(0) : pick;
    }

    long morning(int what) {
        if (!in(what, 0, 3)) {
            return BAD;
        }
        long lost = 0;
        long whole = 1;
        long none = 1;
        for (ModelState.Potato p : now.potatoes) {
            if (p.place != null) {
                int tenths = new int[] {1, 3, 5}[p.place % 3];
                lost += tenths;
                none *= 10 - tenths;
                whole *= 10;
            }
        }
        return what < 2 ? part(lost, 10, what) : part(none, whole, what - 2);
    }

    int drift(int seed, int n, int what) {
        if (!in(n, 1, 60) || !in(what, 0, 1)) {
            return BAD;
        }
        if (now.potatoes.isEmpty()) {
            return STATE;
        }
        ModelState then = now.twin();
        long state = Integer.toUnsignedLong(seed);
        for (int r = 0; r < n; r++) {
            state = (state * 1103515245L + 12345L) & 0xffffffffL;
            ModelState.Potato p = then.potatoes.get((int) ((state >> 16 & 0x7fff) % then.potatoes.size()));
            state = (state * 1103515245L + 12345L) & 0xffffffffL;
            int deed = (int) ((state >> 16 & 0x7fff) % 3);
            p.down = deed == 0 ? 1 - p.down : p.down;
            p.place = deed == 1 && p.isDone() ? null : p.place;
            then.pass();
        }
        return what == 0 ? then.good() : then.black();
    }

    int keep(int k) {
        if (!in(k, 0, 1)) {
            return BAD;
        }
        int was = images[k] == null ? 0 : 1;
        images[k] = now.twin();
        return was;
    }

    int back(int k) {
        if (!in(k, 0, 1)) {
            return BAD;
        }
        if (images[k] == null) {
            return STATE;
        }
        now = images[k].twin();
        return now.round;
    }

    int sheet(int k, int lane, int n) {
        if (!in(k, 0, 3) || !in(lane, 0, 2) || n > 40) {
            return BAD;
        }
        try {
            sheets[k] = lane == 0 ? new byte[n] : lane == 1 ? new short[n] : new int[n];
            return 1;
        } catch (NegativeArraySizeException below) {
            return -14;
        }
    }

    int lay(int k, int i, int v) {
        if (!in(k, 0, 3)) {
            return BAD;
        }
        Object row = sheets[k];
        try {
            if (row instanceof byte[]) {
                ((byte[]) row)[i] = (byte) v;
            } else if (row instanceof short[]) {
                ((short[]) row)[i] = (short) v;
            } else {
                ((int[]) row)[i] = v;
            }
            return 1;
        } catch (NullPointerException nothing) {
            return -11;
        } catch (ArrayIndexOutOfBoundsException past) {
            return -12;
        }
    }

    int read(int k, int lane, int f, int n) {
        if (!in(k, 0, 3) || !in(lane, 0, 2) || !in(n, 0, 13)) {
            return BAD;
        }
        ModelState then = now.twin();
        int found = 0;
        int came = 0;
        try {
            for (int i = 0; i < n; i++) {
                int size = cell(sheets[k], lane, f + 2 * i);
                int wrap = cell(sheets[k], lane, f + 2 * i + 1);
                if (!in(size, 1, 9) || !in(wrap, 0, 2) || then.potatoes.size() == 6) {
                    return -20 - i;
                }
                then.potatoes.add(new ModelState.Potato(size, wrap, null));
                came++;
            }
        } catch (NullPointerException nothing) {
            found = 1;
        } catch (ArrayIndexOutOfBoundsException past) {
            found = 2;
        } catch (ClassCastException other) {
            found = 3;
        }
        torn = found;
        now = then;
        return came;
    }

    private static int cell(Object row, int lane, int i) {
        return lane == 0 ? ((byte[]) row)[i] : lane == 1 ? ((short[]) row)[i] : ((int[]) row)[i];
    }

    int torn() {
        return torn;
    }

    int count(int what) {
        int heat = 0;
        for (int x = 0; x < 3 * now.cells; x++) {
            heat += now.heat[x];
        }
        int cells = sheets[0] == null ? NONE : java.lang.reflect.Array.getLength(sheets[0]);
        int[] all = {(int) now.potatoes.stream().filter(ModelState.Potato::isDone).count(), now.black(), now.good(),
            (int) now.potatoes.stream().filter(p -> p.place == null).count(), now.felt.size(),
            (images[0] == null ? 0 : 1) + (images[1] == null ? 0 : 1), tape.length(), cells, heat};
        return in(what, 0, 8) ? all[what] : BAD;
    }
}
