import java.util.Arrays;

/**
 * Potatoes in the embers: a fire of cells, three places deep, the potatoes that bake in it, and
 * what can be asked of them. The numbered promises stand in the project's document.
 */
public final class EmberSpuds {
    public static final int BAD = -1, STATE = -2, FULL = -3, NONE = -4;

    private static final int DEEP = 3;
    private static final int MOST_CELLS = 8, FEWEST_CELLS = 3;
    private static final int MOST_PLACES = DEEP * MOST_CELLS;
    private static final int MOST_HEAT = 99;
    private static final int MOST_LOSS = 9;
    private static final int MOST_WOOD = 6, MOST_AMOUNT = 99, MOST_WOOD_ROUNDS = 9;
    private static final int MOST_SPUDS = 6, MOST_SIZE = 9, LAST_WRAP = 2;
    private static final int MOST_FELT = 6;
    private static final int LONG_RUN = 60, WATCHED_RUN = 40, SHORT_RUN = 20;
    private static final int ROUND_LIMIT = 1000;
    private static final int SHEETS = 4, LAST_LANE = 2, MOST_SHEET_CELLS = 40, MOST_READ = 13;
    private static final int FAULT_NULL = 1, FAULT_INDEX = 2, FAULT_CAST = 3, FAULT_SIZE = 4;
    private static final int FAULT_BASE = -10, REFUSED_BASE = -20;

    private final Evening now = new Evening();
    /** What is only thought through happens here, so that the calls that ask make no objects. */
    private final Evening trial = new Evening();
    private final Evening[] images = {new Evening(), new Evening()};
    private final boolean[] isKept = new boolean[2];
    private final Reader reader = new Reader();
    private final Track track = new Track();
    private final Layout layout = new Layout();
    private final Sheet[] sheets = {new Sheet(), new Sheet(), new Sheet(), new Sheet()};
    private final FallSearch fallSearch = new FallSearch();
    private final Memory memory = new Memory();
    private int textFault;
    private int readFault;

    public EmberSpuds() {
    }

    // ---- the text

    public int feed(int c) {
        if (c < 0 || c > 127) {
            return BAD;
        }
        return reader.tape.append(c) ? reader.tape.length : FULL;
    }

    public int end(int n) {
        Tape tape = reader.tape;
        if (n < 0 || n > tape.length) {
            return BAD;
        }
        int had = tape.length;
        tape.length = n;
        return had;
    }

    public int text() {
        Tape tape = reader.tape;
        reader.readAll();
        tape.length = 0;
        textFault = tape.faultKind;
        if (textFault != 0) {
            return FAULT_BASE - tape.faultPlace;
        }
        now.copyFrom(reader.draft);
        isKept[0] = false;
        isKept[1] = false;
        return reader.lines;
    }

    public int fault() {
        return textFault;
    }

    public int rule(int what) {
        switch (what) {
            case 0: return now.fire.cells;
            case 1: return now.fire.fall;
            case 2: return now.fire.rim;
            case 3: return now.fire.woods;
            case 4: return now.round;
            case 5: return now.spudCount;
            case 6: return now.raked;
            default: return BAD;
        }
    }

    public int heat(int x) {
        return now.fire.hasPlace(x) ? now.fire.heats[x] : BAD;
    }

    public int wood(int i, int what) {
        if (i < 0 || i >= now.fire.woods) {
            return BAD;
        }
        switch (what) {
            case 0: return now.fire.woodCell[i];
            case 1: return now.fire.woodAmount[i];
            case 2: return now.fire.woodRounds[i];
            default: return BAD;
        }
    }

    public int spud(int p, int what) {
        return now.hasSpud(p) ? now.spuds[p].tell(what) : BAD;
    }

    // ---- what is changed

    public int fan(int x, int v) {
        if (!now.fire.hasPlace(x) || !isHeat(v)) {
            return BAD;
        }
        int was = now.fire.heats[x];
        now.fire.heats[x] = v;
        return was;
    }

    public int ash(int what, int v) {
        if (what < 0 || what > 1 || v < 0 || v > MOST_LOSS) {
            return BAD;
        }
        int was = what == 0 ? now.fire.fall : now.fire.rim;
        if (what == 0) {
            now.fire.fall = v;
        } else {
            now.fire.rim = v;
        }
        return was;
    }

    public int stoke(int c, int amount, int rounds) {
        boolean asTold = now.fire.hasCell(c) && amount >= 1 && amount <= MOST_AMOUNT
                && rounds >= 1 && rounds <= MOST_WOOD_ROUNDS;
        if (!asTold) {
            return BAD;
        }
        return now.fire.layWood(c, amount, rounds) ? now.fire.woods : FULL;
    }

    public int add(int size, int wrap) {
        if (!isSort(size, wrap)) {
            return BAD;
        }
        return now.bring(size, wrap) ? now.spudCount : FULL;
    }

    public int dig(int p, int x) {
        if (!now.hasSpud(p) || (x != NONE && !now.fire.hasPlace(x))) {
            return BAD;
        }
        int lying = x == NONE ? NONE : now.whoLiesIn(x);
        if (lying != NONE && lying != p) {
            return STATE;
        }
        int was = now.spuds[p].place;
        now.spuds[p].place = x;
        return was;
    }

    public int turn(int p) {
        if (!now.hasSpud(p)) {
            return BAD;
        }
        now.spuds[p].turnOver();
        return now.spuds[p].below;
    }

    public int wrap(int p, int w) {
        if (!now.hasSpud(p) || w < 0 || w > LAST_WRAP) {
            return BAD;
        }
        int was = now.spuds[p].wrapping;
        now.spuds[p].wrapping = w;
        return was;
    }

    public int memo(int p, int c) {
        if (!now.hasSpud(p) || (c != NONE && !now.fire.hasCell(c))) {
            return BAD;
        }
        int was = now.spuds[p].remembered;
        now.spuds[p].remembered = c;
        return was;
    }

    public int rake(int x, boolean is) {
        if (!now.fire.hasPlace(x)) {
            return BAD;
        }
        int bit = 1 << x;
        int was = (now.raked & bit) != 0 ? 1 : 0;
        now.raked = is ? now.raked | bit : now.raked & ~bit;
        return was;
    }

    // ---- rounds

    public int go(int n) {
        if (n < 0 || n > LONG_RUN) {
            return BAD;
        }
        if (now.round + n >= ROUND_LIMIT) {
            return FULL;
        }
        now.passRounds(n);
        return now.tally(Evening.GOOD);
    }

    public int ahead(int p, int n, int what) {
        if (!now.hasSpud(p) || n < 0 || n > LONG_RUN) {
            return BAD;
        }
        trial.copyFrom(now);
        trial.passRounds(n);
        return trial.spuds[p].tell(what);
    }

    public int later(int x, int n) {
        if (!now.fire.hasPlace(x) || n < 0 || n > LONG_RUN) {
            return BAD;
        }
        trial.copyFrom(now);
        trial.passRounds(n);
        return trial.fire.heats[x];
    }

    public int when(int p, int what) {
        if (!now.hasSpud(p) || what < 0 || what > 2) {
            return BAD;
        }
        trial.copyFrom(now);
        Spud spud = trial.spuds[p];
        int goodRounds = 0;
        for (int n = 0; n <= WATCHED_RUN; n++) {
            if (what == 0 && spud.isDone() || what == 1 && spud.isBlack()) {
                return n;
            }
            if (spud.isGood()) {
                goodRounds++;
            }
            trial.passRound();
        }
        return what == 2 ? goodRounds : NONE;
    }

    // ---- where, when, how much

    public int places(int n, int what) {
        int p = what - 10;
        if (n < 0 || n > SHORT_RUN || (what != 0 && !now.hasSpud(p))) {
            return BAD;
        }
        layout.survey(now, track, n);
        if (what == 0) {
            return layout.mostGood(0, 0);
        }
        layout.choose(now.fire.placeCount());
        return layout.chosen[p];
    }

    public int flip(int p, int n) {
        if (!now.hasSpud(p) || n < 1 || n > SHORT_RUN) {
            return BAD;
        }
        Spud spud = now.spuds[p];
        track.followFor(now.fire, spud.place, n);
        int coreGain = track.coreGain(spud.wrapping, n);
        for (int r = 0; r < n; r++) {
            int belowGain = track.sideGain(spud.wrapping, 0, r);
            int otherGain = track.sideGain(spud.wrapping, r, n);
            if (spud.wouldBeGood(coreGain, belowGain, otherGain)) {
                return r;
            }
        }
        return NONE;
    }

    public int least(int p, int n) {
        if (!now.hasSpud(p) || n < 1 || n > SHORT_RUN) {
            return BAD;
        }
        Spud spud = now.spuds[p];
        if (spud.place == NONE) {
            return STATE;
        }
        for (int amount = 0; amount <= MOST_AMOUNT; amount++) {
            track.gatherEmbers(now.fire, spud.place);
            track.addEmber(amount, spud.place, 1);
            track.follow(now.fire.heatAt(spud.place), now.fire.lossAt(spud.place), n);
            if (spud.wouldBeDone(track.coreGain(spud.wrapping, n))) {
                return amount;
            }
        }
        return NONE;
    }

    public int best(int what) {
        if (what < 0 || what > 1) {
            return BAD;
        }
        trial.copyFrom(now);
        int bestRounds = 0;
        int most = 0;
        for (int n = 0; n <= SHORT_RUN; n++) {
            int good = trial.tally(Evening.GOOD);
            if (good > most) {
                most = good;
                bestRounds = n;
            }
            trial.passRound();
        }
        return what == 0 ? bestRounds : most;
    }

    // ---- felt

    public int feel(int n, int x, int v) {
        if (n < 0 || n > SHORT_RUN || !now.fire.hasPlace(x) || !isHeat(v)) {
            return BAD;
        }
        return now.noteFelt(n, x, v) ? now.feltCount : FULL;
    }

    public int forget(int n) {
        if (n < 0 || n > now.feltCount) {
            return BAD;
        }
        int were = now.feltCount;
        now.feltCount = n;
        return were;
    }

    public int fits(int what) {
        if (what < 0 || what > 2) {
            return BAD;
        }
        fallSearch.search(now, track);
        switch (what) {
            case 0: return fallSearch.fitting;
            case 1: return fallSearch.leastPair;
            default: return fallSearch.greatestPair;
        }
    }

    // ---- remembered

    public long lies(int p, int x, int what) {
        if (!now.hasSpud(p) || !now.fire.hasPlace(x) || what < 0 || what > 1) {
            return BAD;
        }
        int cell = now.spuds[p].remembered;
        if (cell == NONE) {
            return STATE;
        }
        int whole = memory.allWeights(now, cell);
        if (whole == 0) {
            return NONE;
        }
        return fractionPart(memory.weight(now, cell, x), whole, what);
    }

    public long next(int what) {
        if (what < 0 || what > 2) {
            return BAD;
        }
        memory.searchFullest(now);
        if (memory.fullest == NONE) {
            return NONE;
        }
        return what == 0 ? memory.fullest : fractionPart(memory.mean, Memory.UNIT, what - 1);
    }

    // ---- who gets which, morning

    public int takes(int k) {
        if (k < 0) {
            return BAD;
        }
        if (k >= now.spudCount) {
            return NONE;
        }
        int gone = 0;
        int pick = NONE;
        for (int child = 0; child <= k; child++) {
            pick = now.mostWanted(gone);
            gone |= 1 << pick;
        }
        return pick;
    }

    public long morning(int what) {
        if (what < 0 || what > 3) {
            return BAD;
        }
        long tenthsLost = 0;
        long noneLost = 1;
        long allWays = 1;
        for (int p = 0; p < now.spudCount; p++) {
            int place = now.spuds[p].place;
            if (place != NONE) {
                int tenths = 1 + 2 * (place % DEEP);
                tenthsLost += tenths;
                noneLost *= 10 - tenths;
                allWays *= 10;
            }
        }
        return what < 2 ? fractionPart(tenthsLost, 10, what) : fractionPart(noneLost, allWays, what - 2);
    }

    // ---- by a seed

    public int drift(int seed, int n, int what) {
        if (n < 1 || n > LONG_RUN || what < 0 || what > 1) {
            return BAD;
        }
        int spudCount = now.spudCount;
        if (spudCount == 0) {
            return STATE;
        }
        trial.copyFrom(now);
        int state = seed;
        for (int r = 0; r < n; r++) {
            state = stepSeed(state);
            int p = seedBits(state) % spudCount;
            state = stepSeed(state);
            trial.meddle(p, seedBits(state) % 3);
            trial.passRound();
        }
        return trial.tally(what == 0 ? Evening.GOOD : Evening.BLACK);
    }

    // ---- images, sheets

    public int keep(int k) {
        if (k < 0 || k > 1) {
            return BAD;
        }
        int was = isKept[k] ? 1 : 0;
        images[k].copyFrom(now);
        isKept[k] = true;
        return was;
    }

    public int back(int k) {
        if (k < 0 || k > 1) {
            return BAD;
        }
        if (!isKept[k]) {
            return STATE;
        }
        now.copyFrom(images[k]);
        return now.round;
    }

    public int sheet(int k, int lane, int n) {
        if (!isSheet(k) || !isLane(lane) || n > MOST_SHEET_CELLS) {
            return BAD;
        }
        if (n < 0) {
            return FAULT_BASE - FAULT_SIZE;
        }
        sheets[k].renew(lane, n);
        return 1;
    }

    public int lay(int k, int i, int v) {
        if (!isSheet(k)) {
            return BAD;
        }
        int found = sheets[k].faultAt(i);
        if (found != 0) {
            return FAULT_BASE - found;
        }
        sheets[k].put(i, v);
        return 1;
    }

    public int read(int k, int lane, int f, int n) {
        if (!isSheet(k) || !isLane(lane) || n < 0 || n > MOST_READ) {
            return BAD;
        }
        Sheet row = sheets[k];
        int before = now.spudCount;
        int found = 0;
        for (int i = 0; i < n && found == 0; i++) {
            int at = f + 2 * i;
            found = row.pairFault(lane, at);
            if (found == 0 && !bringSort(row.valueAt(at), row.valueAt(at + 1))) {
                now.spudCount = before;
                return REFUSED_BASE - i;
            }
        }
        readFault = found;
        return now.spudCount - before;
    }

    public int torn() {
        return readFault;
    }

    public int count(int what) {
        switch (what) {
            case 0: return now.tally(Evening.DONE);
            case 1: return now.tally(Evening.BLACK);
            case 2: return now.tally(Evening.GOOD);
            case 3: return now.tally(Evening.OUT);
            case 4: return now.feltCount;
            case 5: return (isKept[0] ? 1 : 0) + (isKept[1] ? 1 : 0);
            case 6: return reader.tape.length;
            case 7: return sheets[0].length;
            case 8: return now.fire.allHeat();
            default: return BAD;
        }
    }

    // ---- what several calls need

    private boolean bringSort(int size, int wrapping) {
        return isSort(size, wrapping) && now.bring(size, wrapping);
    }

    private static boolean isSort(int size, int wrapping) {
        return size >= 1 && size <= MOST_SIZE && wrapping >= 0 && wrapping <= LAST_WRAP;
    }

    private static boolean isHeat(int v) {
        return v >= 0 && v <= MOST_HEAT;
    }

    private static boolean isSheet(int k) {
        return k >= 0 && k < SHEETS;
    }

    private static boolean isLane(int lane) {
        return lane >= 0 && lane <= LAST_LANE;
    }

    private static int stepSeed(int seed) {
        return seed * 1103515245 + 12345;
    }

    private static int seedBits(int seed) {
        return (seed >>> 16) & 0x7fff;
    }

    /** The numerator (which 0) or the denominator (1) of part by whole in lowest terms. */
    private static long fractionPart(long part, long whole, int which) {
        long shared = commonDivisor(part, whole);
        if (shared == 0) {
            return which;
        }
        return (which == 0 ? part : whole) / shared;
    }

    private static long commonDivisor(long a, long b) {
        long big = a;
        long small = b;
        for (int step = 0; step < 200 && small != 0; step++) {
            long rest = big % small;
            big = small;
            small = rest;
        }
        return big;
    }

    /** One potato: its sort, where it lies, how far it is baked, which cell is remembered of it. */
    private static final class Spud {
        int size, wrapping, place, core, below, other, remembered;

        void becomeRaw(int newSize, int newWrapping) {
            size = newSize;
            wrapping = newWrapping;
            place = NONE;
            core = 0;
            below = 0;
            other = 0;
            remembered = NONE;
        }

        void copyFrom(Spud from) {
            size = from.size;
            wrapping = from.wrapping;
            place = from.place;
            core = from.core;
            below = from.below;
            other = from.other;
            remembered = from.remembered;
        }

        void bakeBy(int heat) {
            core = Math.min(MOST_HEAT, core + coreShare(heat, wrapping));
            below = Math.min(MOST_HEAT, below + sideShare(heat, wrapping));
        }

        void turnOver() {
            int up = below;
            below = other;
            other = up;
        }

        boolean isDone() {
            return wouldBeDone(0);
        }

        boolean isBlack() {
            return below >= 40 || other >= 40;
        }

        boolean isGood() {
            return isDone() && !isBlack();
        }

        // No bound of these hypothetical gains is needed: 99 at most is above every mark.
        boolean wouldBeDone(int coreGain) {
            return core + coreGain >= 10 * size;
        }

        boolean wouldBeGood(int coreGain, int belowGain, int otherGain) {
            return wouldBeDone(coreGain) && below + belowGain < 40 && other + otherGain < 40;
        }

        int tell(int what) {
            switch (what) {
                case 0: return size;
                case 1: return wrapping;
                case 2: return place;
                case 3: return core;
                case 4: return below;
                case 5: return other;
                case 6: return isDone() ? 1 : 0;
                case 7: return isBlack() ? 1 : 0;
                case 8: return isGood() ? 1 : 0;
                case 9: return remembered;
                default: return BAD;
            }
        }

        /** The greater, the earlier a child takes it; a kind's own measure stays below 100. */
        int appeal() {
            if (isGood()) {
                return 200 + size;
            }
            return isBlack() ? 0 : 100 + core;
        }

        static int coreShare(int heat, int wrapping) {
            switch (wrapping) {
                case 1: return heat / 7;
                case 2: return heat / 6;
                default: return heat / 5;
            }
        }

        static int sideShare(int heat, int wrapping) {
            switch (wrapping) {
                case 1: return heat / 16;
                case 2: return heat / 12;
                default: return heat / 8;
            }
        }
    }

    /** The cells with their heat, and the wood that is not ember yet. */
    private static final class Fire {
        int cells, fall, rim, woods;
        final int[] heats = new int[MOST_PLACES];
        final int[] woodCell = new int[MOST_WOOD];
        final int[] woodAmount = new int[MOST_WOOD];
        final int[] woodRounds = new int[MOST_WOOD];

        void becomeCold() {
            cells = FEWEST_CELLS;
            fall = 1;
            rim = 1;
            woods = 0;
            Arrays.fill(heats, 0);
        }

        void copyFrom(Fire from) {
            cells = from.cells;
            fall = from.fall;
            rim = from.rim;
            woods = from.woods;
            System.arraycopy(from.heats, 0, heats, 0, MOST_PLACES);
            System.arraycopy(from.woodCell, 0, woodCell, 0, MOST_WOOD);
            System.arraycopy(from.woodAmount, 0, woodAmount, 0, MOST_WOOD);
            System.arraycopy(from.woodRounds, 0, woodRounds, 0, MOST_WOOD);
        }

        int placeCount() {
            return DEEP * cells;
        }

        boolean hasCell(int c) {
            return c >= 0 && c < cells;
        }

        boolean hasPlace(int x) {
            return x >= 0 && x < placeCount();
        }

        int heatAt(int x) {
            return hasPlace(x) ? heats[x] : 0;
        }

        boolean isRimPlace(int x) {
            return x / DEEP == 0 || x / DEEP == cells - 1;
        }

        int lossAt(int x) {
            return isRimPlace(x) ? fall + rim : fall;
        }

        boolean layWood(int cell, int amount, int rounds) {
            if (woods >= MOST_WOOD) {
                return false;
            }
            woodCell[woods] = cell;
            woodAmount[woods] = amount;
            woodRounds[woods] = rounds;
            woods++;
            return true;
        }

        void burnWood() {
            int left = 0;
            for (int i = 0; i < woods; i++) {
                if (woodRounds[i] <= 1) {
                    becomeEmber(woodCell[i], woodAmount[i]);
                } else {
                    woodCell[left] = woodCell[i];
                    woodAmount[left] = woodAmount[i];
                    woodRounds[left] = woodRounds[i] - 1;
                    left++;
                }
            }
            woods = left;
        }

        void becomeEmber(int cell, int amount) {
            for (int depth = 0; depth < DEEP; depth++) {
                int x = DEEP * cell + depth;
                if (hasPlace(x)) {
                    heats[x] = Math.min(MOST_HEAT, heats[x] + emberShare(amount, depth));
                }
            }
        }

        void coolDown() {
            for (int x = 0; x < placeCount(); x++) {
                heats[x] = Math.max(0, heats[x] - lossAt(x));
            }
        }

        int allHeat() {
            int sum = 0;
            for (int x = 0; x < placeCount(); x++) {
                sum += heats[x];
            }
            return sum;
        }

        /** All of it on top, half of it below, a quarter lowest. */
        static int emberShare(int amount, int depth) {
            return amount >> depth;
        }
    }

    /** All that an image keeps: fire, potatoes, what was raked and felt. */
    private static final class Evening {
        static final int DONE = 0, BLACK = 1, GOOD = 2, OUT = 3;

        final Fire fire = new Fire();
        final Spud[] spuds = new Spud[MOST_SPUDS];
        int spudCount, round, raked, feltCount;
        final int[] feltRounds = new int[MOST_FELT];
        final int[] feltPlace = new int[MOST_FELT];
        final int[] feltHeat = new int[MOST_FELT];

        Evening() {
            for (int p = 0; p < MOST_SPUDS; p++) {
                spuds[p] = new Spud();
            }
            fire.becomeCold();
        }

        void startAnew() {
            fire.becomeCold();
            spudCount = 0;
            round = 0;
            raked = 0;
            feltCount = 0;
        }

        void copyFrom(Evening from) {
            fire.copyFrom(from.fire);
            for (int p = 0; p < from.spudCount; p++) {
                spuds[p].copyFrom(from.spuds[p]);
            }
            spudCount = from.spudCount;
            round = from.round;
            raked = from.raked;
            feltCount = from.feltCount;
            System.arraycopy(from.feltRounds, 0, feltRounds, 0, MOST_FELT);
            System.arraycopy(from.feltPlace, 0, feltPlace, 0, MOST_FELT);
            System.arraycopy(from.feltHeat, 0, feltHeat, 0, MOST_FELT);
        }

        boolean hasSpud(int p) {
            return p >= 0 && p < spudCount;
        }

        boolean bring(int size, int wrapping) {
            if (spudCount >= MOST_SPUDS) {
                return false;
            }
            spuds[spudCount].becomeRaw(size, wrapping);
            spudCount++;
            return true;
        }

        int whoLiesIn(int x) {
            for (int p = 0; p < spudCount; p++) {
                if (spuds[p].place == x) {
                    return p;
                }
            }
            return NONE;
        }

        boolean noteFelt(int rounds, int x, int heat) {
            if (feltCount >= MOST_FELT) {
                return false;
            }
            feltRounds[feltCount] = rounds;
            feltPlace[feltCount] = x;
            feltHeat[feltCount] = heat;
            feltCount++;
            return true;
        }

        void passRound() {
            for (int p = 0; p < spudCount; p++) {
                if (spuds[p].place != NONE) {
                    spuds[p].bakeBy(fire.heatAt(spuds[p].place));
                }
            }
            fire.burnWood();
            fire.coolDown();
            round++;
        }

        void passRounds(int n) {
            for (int r = 0; r < n; r++) {
                passRound();
            }
        }

        /** What the seed does to a potato: 0 turns it, 1 takes it out if it is done. */
        void meddle(int p, int deed) {
            if (!hasSpud(p)) {
                return;
            }
            if (deed == 0) {
                spuds[p].turnOver();
            } else if (deed == 1 && spuds[p].isDone()) {
                spuds[p].place = NONE;
            }
        }

        int tally(int what) {
            int sum = 0;
            for (int p = 0; p < spudCount; p++) {
                if (isOfKind(spuds[p], what)) {
                    sum++;
                }
            }
            return sum;
        }

        static boolean isOfKind(Spud spud, int what) {
            switch (what) {
                case DONE: return spud.isDone();
                case BLACK: return spud.isBlack();
                case GOOD: return spud.isGood();
                default: return spud.place == NONE;
            }
        }

        /** The potato that the next child takes when those whose bits are set are gone. */
        int mostWanted(int gone) {
            int pick = NONE;
            int most = -1;
            for (int p = 0; p < spudCount; p++) {
                if ((gone & 1 << p) == 0 && spuds[p].appeal() > most) {
                    pick = p;
                    most = spuds[p].appeal();
                }
            }
            return pick;
        }
    }

    /** The bytes that were fed, and their tokens one behind another, none behind the first fault. */
    private static final class Tape {
        static final int ROOM = 160;
        static final int END = 0, NAME = 1, NUMBER = 2, MARK = 3, BLANK = 4, STRAY = 5;
        static final int NO_TOKEN = 1, MISPLACED = 2, OUT_OF_BOUNDS = 3, TOLD_TWICE = 4,
                TOO_MANY = 5, NOT_THERE = 6;

        final byte[] bytes = new byte[ROOM];
        int length, kind, begin, behind, faultKind, faultPlace;

        boolean append(int c) {
            if (length >= ROOM) {
                return false;
            }
            bytes[length] = (byte) c;
            length++;
            return true;
        }

        int byteAt(int i) {
            return i >= 0 && i < length && i < ROOM ? bytes[i] : -1;
        }

        void rewind() {
            kind = END;
            begin = 0;
            behind = 0;
            faultKind = 0;
            faultPlace = 0;
        }

        boolean isSound() {
            return faultKind == 0;
        }

        void failAt(int place, int which) {
            if (faultKind == 0) {
                faultKind = which;
                faultPlace = place;
            }
        }

        void fail(int which) {
            failAt(begin, which);
        }

        /** Reads the next token, as long as may be. */
        void advance() {
            if (!isSound()) {
                return;
            }
            begin = behind;
            for (int i = begin; i < length && kindAt(i) == BLANK; i++) {
                begin = i + 1;
            }
            kind = kindAt(begin);
            behind = Math.min(length, begin + 1);
            boolean isRun = kind == NAME || kind == NUMBER;
            for (int i = behind; isRun && i < length && kindAt(i) == kind; i++) {
                behind = i + 1;
            }
            if (kind == STRAY || kind == NUMBER && behind - begin > 2) {
                fail(NO_TOKEN);
            }
        }

        /** The kind of token of which byte i can be a part. */
        int kindAt(int i) {
            int c = byteAt(i);
            if (c < 0) {
                return END;
            }
            if (c >= 'a' && c <= 'z') {
                return NAME;
            }
            if (c >= '0' && c <= '9') {
                return NUMBER;
            }
            if (c == ' ') {
                return BLANK;
            }
            return c == ';' ? MARK : STRAY;
        }

        boolean isName(String name) {
            if (kind != NAME || behind - begin != name.length()) {
                return false;
            }
            for (int i = 0; i < name.length(); i++) {
                if (byteAt(begin + i) != name.charAt(i)) {
                    return false;
                }
            }
            return true;
        }

        /** The next token as a number; low when there is a fault, so that it can be used safely. */
        int takeNumber(int low, int high) {
            advance();
            if (isSound() && kind != NUMBER) {
                fail(MISPLACED);
            }
            int value = 0;
            for (int i = begin; i < behind && isSound(); i++) {
                value = 10 * value + byteAt(i) - '0';
            }
            if (isSound() && (value < low || value > high)) {
                fail(OUT_OF_BOUNDS);
            }
            return isSound() ? value : low;
        }

        int takeWrap() {
            advance();
            if (isName("bare")) {
                return 0;
            }
            if (isName("clay")) {
                return 1;
            }
            if (isName("foil")) {
                return 2;
            }
            fail(MISPLACED);
            return 0;
        }

        void takeMark() {
            advance();
            if (kind != MARK) {
                fail(MISPLACED);
            }
        }
    }

    /** Reads the tape's lines into a draft, which counts only if no fault was met. */
    private static final class Reader {
        final Tape tape = new Tape();
        final Evening draft = new Evening();
        final int[] remembered = new int[MOST_SPUDS];
        int lines, heatTold, farCell, farPlace, farSpud;
        boolean fireTold;

        void readAll() {
            startAnew();
            for (int i = 0; i <= Tape.ROOM; i++) {
                tape.advance();
                if (!tape.isSound() || tape.kind == Tape.END) {
                    break;
                }
                readLine();
                lines++;
            }
            if (!allIsThere()) {
                tape.failAt(tape.length, Tape.NOT_THERE);
            }
            rememberCells();
        }

        void startAnew() {
            tape.rewind();
            draft.startAnew();
            Arrays.fill(remembered, NONE);
            lines = 0;
            heatTold = 0;
            farCell = 0;
            farPlace = 0;
            farSpud = NONE;
            fireTold = false;
        }

        boolean allIsThere() {
            return draft.fire.hasCell(farCell) && draft.fire.hasPlace(farPlace)
                    && farSpud < draft.spudCount;
        }

        void rememberCells() {
            for (int p = 0; p < draft.spudCount; p++) {
                draft.spuds[p].remembered = remembered[p];
            }
        }

        void readLine() {
            if (tape.isName("fire")) {
                readFire();
            } else if (tape.isName("heat")) {
                readHeat();
            } else if (tape.isName("wood")) {
                readWood();
            } else if (tape.isName("spud")) {
                readSpud(true);
            } else if (tape.isName("out")) {
                readSpud(false);
            } else if (tape.isName("memo")) {
                readMemo();
            } else {
                tape.fail(Tape.MISPLACED);
            }
        }

        void readFire() {
            if (fireTold) {
                tape.fail(Tape.TOLD_TWICE);
            }
            fireTold = true;
            draft.fire.cells = tape.takeNumber(FEWEST_CELLS, MOST_CELLS);
            draft.fire.fall = tape.takeNumber(0, MOST_LOSS);
            draft.fire.rim = tape.takeNumber(0, MOST_LOSS);
            tape.takeMark();
        }

        void readHeat() {
            int cell = tape.takeNumber(0, MOST_CELLS - 1);
            farCell = Math.max(farCell, cell);
            if ((heatTold & 1 << cell) != 0) {
                tape.fail(Tape.TOLD_TWICE);
            }
            heatTold |= 1 << cell;
            for (int depth = 0; depth < DEEP; depth++) {
                draft.fire.heats[DEEP * cell + depth] = tape.takeNumber(0, MOST_HEAT);
            }
            tape.takeMark();
        }

        void readWood() {
            if (draft.fire.woods >= MOST_WOOD) {
                tape.fail(Tape.TOO_MANY);
            }
            int cell = tape.takeNumber(0, MOST_CELLS - 1);
            farCell = Math.max(farCell, cell);
            int amount = tape.takeNumber(1, MOST_AMOUNT);
            int rounds = tape.takeNumber(1, MOST_WOOD_ROUNDS);
            tape.takeMark();
            draft.fire.layWood(cell, amount, rounds);
        }

        void readSpud(boolean inPlace) {
            if (draft.spudCount >= MOST_SPUDS) {
                tape.fail(Tape.TOO_MANY);
            }
            int size = tape.takeNumber(1, MOST_SIZE);
            int wrapping = tape.takeWrap();
            int place = inPlace ? tape.takeNumber(0, MOST_PLACES - 1) : NONE;
            if (inPlace && draft.whoLiesIn(place) != NONE) {
                tape.fail(Tape.TOLD_TWICE);
            }
            farPlace = Math.max(farPlace, place);
            tape.takeMark();
            if (tape.isSound() && draft.bring(size, wrapping)) {
                draft.spuds[draft.spudCount - 1].place = place;
            }
        }

        void readMemo() {
            int p = tape.takeNumber(0, MOST_SPUDS - 1);
            if (remembered[p] != NONE) {
                tape.fail(Tape.TOLD_TWICE);
            }
            farSpud = Math.max(farSpud, p);
            remembered[p] = tape.takeNumber(0, MOST_CELLS - 1);
            farCell = Math.max(farCell, remembered[p]);
            tape.takeMark();
        }
    }

    /** The heat of one place ahead of each of the rounds to come. */
    private static final class Track {
        final int[] heats = new int[SHORT_RUN + 1];
        final int[] embers = new int[MOST_WOOD_ROUNDS + 1];

        /** A place of NONE stays cold: a potato that is out does not bake. */
        void followFor(Fire fire, int x, int n) {
            if (x == NONE) {
                Arrays.fill(heats, 0);
                return;
            }
            gatherEmbers(fire, x);
            follow(fire.heatAt(x), fire.lossAt(x), n);
        }

        void gatherEmbers(Fire fire, int x) {
            Arrays.fill(embers, 0);
            for (int i = 0; i < fire.woods; i++) {
                if (fire.woodCell[i] == x / DEEP) {
                    addEmber(fire.woodAmount[i], x, fire.woodRounds[i]);
                }
            }
        }

        void addEmber(int amount, int x, int rounds) {
            if (rounds >= 0 && rounds < embers.length) {
                embers[rounds] += Fire.emberShare(amount, x % DEEP);
            }
        }

        void follow(int heatNow, int loss, int n) {
            heats[0] = heatNow;
            for (int r = 1; r <= n && r < heats.length; r++) {
                int ember = r < embers.length ? embers[r] : 0;
                heats[r] = Math.max(0, Math.min(MOST_HEAT, heats[r - 1] + ember) - loss);
            }
        }

        int coreGain(int wrapping, int n) {
            int sum = 0;
            for (int r = 0; r < n && r < heats.length; r++) {
                sum += Spud.coreShare(heats[r], wrapping);
            }
            return sum;
        }

        int sideGain(int wrapping, int from, int to) {
            int sum = 0;
            for (int r = from; r < to && r < heats.length; r++) {
                sum += Spud.sideShare(heats[r], wrapping);
            }
            return sum;
        }
    }

    /** Where to put which potato, so that most are good. */
    private static final class Layout {
        /** Bits of the places in which each potato would be good. */
        final int[] goodPlaces = new int[MOST_SPUDS];
        final boolean[] isGoodOut = new boolean[MOST_SPUDS];
        final int[] chosen = new int[MOST_SPUDS];
        /** For each set of potatoes (bits) the places in which one of them would be good. */
        final int[] reached = new int[1 << MOST_SPUDS];
        int spudCount;

        void survey(Evening evening, Track track, int n) {
            spudCount = evening.spudCount;
            for (int p = 0; p < spudCount; p++) {
                goodPlaces[p] = 0;
                isGoodOut[p] = evening.spuds[p].isGood();
            }
            for (int x = 0; x < evening.fire.placeCount(); x++) {
                track.followFor(evening.fire, x, n);
                for (int w = 0; w <= LAST_WRAP; w++) {
                    surveyWrap(evening, x, w, track.coreGain(w, n), track.sideGain(w, 0, n));
                }
            }
            uniteReached();
        }

        void surveyWrap(Evening evening, int x, int wrapping, int coreGain, int sideGain) {
            for (int p = 0; p < spudCount; p++) {
                Spud spud = evening.spuds[p];
                if (spud.wrapping == wrapping && spud.wouldBeGood(coreGain, sideGain, 0)) {
                    goodPlaces[p] |= 1 << x;
                }
            }
        }

        void uniteReached() {
            for (int p = 0; p < spudCount; p++) {
                for (int set = 0; set < 1 << p; set++) {
                    reached[1 << p | set] = reached[set] | goodPlaces[p];
                }
            }
        }

        /**
         * The most of the potatoes from first on that can be good beside the taken places. Who is
         * good when out needs no place; for the others it is Hall's theorem: a set of potatoes that
         * reaches too few places leaves that many of its own without one.
         */
        int mostGood(int first, int taken) {
            int needy = 0;
            for (int p = first; p < spudCount; p++) {
                if (!isGoodOut[p]) {
                    needy |= 1 << p;
                }
            }
            int lacking = 0;
            for (int set = 0; set < 1 << spudCount; set += 1 << first) {
                if ((set & ~needy) == 0) {
                    int lack = Integer.bitCount(set) - Integer.bitCount(reached[set] & ~taken);
                    lacking = Math.max(lacking, lack);
                }
            }
            return spudCount - first - lacking;
        }

        void choose(int placeCount) {
            int open = mostGood(0, 0);
            int taken = 0;
            for (int p = 0; p < spudCount; p++) {
                chosen[p] = firstPlace(p, taken, open, placeCount);
                if (chosen[p] == NONE) {
                    open -= isGoodOut[p] ? 1 : 0;
                } else {
                    open -= goodIn(p, chosen[p]);
                    taken |= 1 << chosen[p];
                }
            }
        }

        /** The first place that leaves as many good as are open; NONE: only out does. */
        int firstPlace(int p, int taken, int open, int placeCount) {
            for (int x = 0; x < placeCount; x++) {
                boolean isFree = (taken & 1 << x) == 0;
                if (isFree && goodIn(p, x) + mostGood(p + 1, taken | 1 << x) == open) {
                    return x;
                }
            }
            return NONE;
        }

        int goodIn(int p, int x) {
            return goodPlaces[p] >> x & 1;
        }
    }

    /** Which pairs of fall and rim make all that was felt so. */
    private static final class FallSearch {
        final boolean[] isFitting = new boolean[100];
        final boolean[] isLossFitting = new boolean[2 * MOST_LOSS + 1];
        int fitting, leastPair, greatestPair;

        void search(Evening evening, Track track) {
            for (int pair = 0; pair < isFitting.length; pair++) {
                isFitting[pair] = true;
            }
            for (int i = 0; i < evening.feltCount; i++) {
                int x = evening.feltPlace[i];
                int n = Math.min(SHORT_RUN, evening.feltRounds[i]);
                track.gatherEmbers(evening.fire, x);
                for (int loss = 0; loss < isLossFitting.length; loss++) {
                    track.follow(evening.fire.heatAt(x), loss, n);
                    isLossFitting[loss] = n >= 0 && track.heats[n] == evening.feltHeat[i];
                }
                sift(evening.fire.isRimPlace(x));
            }
            sumUp();
        }

        void sift(boolean atRim) {
            for (int pair = 0; pair < isFitting.length; pair++) {
                int loss = pair / 10 + (atRim ? pair % 10 : 0);
                isFitting[pair] = isFitting[pair] && isLossFitting[loss];
            }
        }

        void sumUp() {
            fitting = 0;
            leastPair = NONE;
            greatestPair = NONE;
            for (int pair = 0; pair < isFitting.length; pair++) {
                if (isFitting[pair]) {
                    leastPair = fitting == 0 ? pair : leastPair;
                    greatestPair = pair;
                    fitting++;
                }
            }
        }
    }

    /** Where potatoes lie by what is remembered of them and was raked. */
    private static final class Memory {
        /** Every sum of weights is at most 12 and divides this, so that means stay whole numbers. */
        static final int UNIT = 27720;

        final int[] wholes = new int[MOST_SPUDS];
        int fullest, mean;

        int weight(Evening evening, int cell, int x) {
            if ((evening.raked & 1 << x) != 0) {
                return 0;
            }
            int far = Math.abs(x / DEEP - cell);
            return far > 1 ? 0 : 2 - far;
        }

        int allWeights(Evening evening, int cell) {
            int sum = 0;
            for (int x = 0; x < evening.fire.placeCount(); x++) {
                sum += weight(evening, cell, x);
            }
            return sum;
        }

        void searchFullest(Evening evening) {
            for (int p = 0; p < evening.spudCount; p++) {
                int cell = evening.spuds[p].remembered;
                wholes[p] = cell == NONE ? 0 : allWeights(evening, cell);
            }
            fullest = NONE;
            mean = 0;
            for (int x = 0; x < evening.fire.placeCount(); x++) {
                int lying = meanIn(evening, x);
                if (lying > mean) {
                    mean = lying;
                    fullest = x;
                }
            }
        }

        int meanIn(Evening evening, int x) {
            int sum = 0;
            for (int p = 0; p < evening.spudCount; p++) {
                if (wholes[p] > 0) {
                    sum += weight(evening, evening.spuds[p].remembered, x) * (UNIT / wholes[p]);
                }
            }
            return sum;
        }
    }

    /** A row of numbers of one lane, or nothing, with the faults that the machine would find. */
    private static final class Sheet {
        final int[] values = new int[MOST_SHEET_CELLS];
        int lane;
        /** NONE: there is no row. */
        int length = NONE;

        void renew(int newLane, int n) {
            lane = newLane;
            length = n;
            Arrays.fill(values, 0);
        }

        int faultAt(int i) {
            if (length == NONE) {
                return FAULT_NULL;
            }
            return i >= 0 && i < length && i < values.length ? 0 : FAULT_INDEX;
        }

        /** Nothing is of no lane, so it is never CAST; a row of another lane is, whatever i is. */
        int pairFault(int asLane, int i) {
            if (length != NONE && lane != asLane) {
                return FAULT_CAST;
            }
            int found = faultAt(i);
            return found != 0 ? found : faultAt(i + 1);
        }

        int valueAt(int i) {
            return faultAt(i) == 0 ? values[i] : 0;
        }

        void put(int i, int v) {
            if (faultAt(i) != 0) {
                return;
            }
            switch (lane) {
                case 0: values[i] = (byte) v; break;
                case 1: values[i] = (short) v; break;
                default: values[i] = v; break;
            }
        }
    }
}
