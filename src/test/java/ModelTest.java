import java.lang.reflect.InvocationTargetException;
import java.lang.reflect.Method;
import java.util.Arrays;
import java.util.Random;

/**
 * All promises: random runs of calls, their numbers mostly at, just inside and just past the bounds,
 * on the class and on the model, which reads the document once more. A run ends at its 512th call.
 */
public final class ModelTest {
    private static final int RUNS = 1500, CALLS = 512;
    /** A call and the bounds of its numbers; x: a place, c: a cell, p: a potato, n: NONE too, b: is. */
    private static final String[] CALLS_AND_BOUNDS = {"feed 0,127", "end 0,160", "text", "fault", "rule 0,6",
        "heat x", "wood 0,5 0,2", "spud p 0,9", "fan x 0,99", "ash 0,1 0,9", "stoke c 1,99 1,9", "add 1,9 0,2",
        "dig p nx", "turn p", "wrap p 0,2", "memo p nc", "rake x b", "go 0,60", "ahead p 0,60 0,9",
        "later x 0,60", "when p 0,2", "places 0,20 0,15", "flip p 1,20", "least p 1,20", "best 0,1",
        "feel 0,20 x 0,99", "forget 0,6", "fits 0,2", "lies p x 0,1", "next 0,2", "takes 0,6", "morning 0,3",
        "drift seed 1,60 0,1", "keep 0,1", "back 0,1", "sheet 0,3 0,2 0,40", "lay 0,3 0,39 v",
        "read 0,3 0,2 f 0,13", "torn", "count 0,8"};
    private static final int[] WILD = {-1, -2, -3, -4, -5, -10, 0, 1, 10, 11, 15, 16, 255, 256, 263, 65536, 65543,
        999, 1000, 1 << 30, -(1 << 30), Integer.MAX_VALUE, Integer.MIN_VALUE, Integer.MAX_VALUE - 1};
    private static final String[] WORDS = {"fire", "heat", "wood", "spud", "out", "memo", "bare", "clay", "foil",
        ";", " ", "0", "1", "2", "3", "5", "6", "7", "8", "9", "10", "23", "24", "99", "100", "?", "a"};

    private static final Due due = new Due("ModelTest");
    private static final Method[] onClass = new Method[CALLS_AND_BOUNDS.length];
    private static final Method[] onModel = new Method[CALLS_AND_BOUNDS.length];
    private static final String[][] bounds = new String[CALLS_AND_BOUNDS.length][];
    private static final int[] accepted = new int[CALLS_AND_BOUNDS.length];
    private static final int[] refused = new int[CALLS_AND_BOUNDS.length];
    private static final int[] faults = new int[7];

    private final Random random;
    private final EmberSpuds fire = new EmberSpuds();
    private final Model model = new Model();
    private final StringBuilder told = new StringBuilder();
    private int calls;
    private boolean isSame = true;

    private ModelTest(int seed) {
        random = new Random(seed);
    }

    public static void main(String[] args) {
        findMethods();
        for (int seed = 0; seed < RUNS; seed++) {
            new ModelTest(seed).run();
        }
        for (int m = 0; m < bounds.length; m++) {
            due.holds(bounds[m][0] + " was taken in many runs", accepted[m] > RUNS / 10);
            due.holds(bounds[m][0] + " was refused in many runs", bounds[m].length == 1 || refused[m] > RUNS / 20);
        }
        for (int kind = 0; kind < faults.length; kind++) {
            due.holds("fault " + kind + " was met", faults[kind] > 20);
        }
        due.close();
    }

    private static void findMethods() {
        for (int m = 0; m < bounds.length; m++) {
            bounds[m] = CALLS_AND_BOUNDS[m].split(" ");
            onClass[m] = named(EmberSpuds.class, bounds[m][0]);
            onModel[m] = named(Model.class, bounds[m][0]);
        }
    }

    private static Method named(Class<?> type, String name) {
        return Arrays.stream(type.getDeclaredMethods()).filter(m -> m.getName().equals(name)).findFirst().get();
    }

    private int below(int n) {
        return random.nextInt(n);
    }

    private void run() {
        if (below(8) > 0) {
            tell(soundText());
        }
        // Late in the evening ROUND comes near its end.
        for (int i = below(8) == 0 ? 16 : 0; i > 0; i--) {
            call("go", 60);
        }
        while (isSame && calls < CALLS) {
            int dice = below(100);
            if (dice == 0) {
                tell(below(2) == 0 ? soundText() : wildText());
            } else if (dice == 1) {
                fillSheet();
            } else if (dice < 6) {
                feelTruth();
            } else {
                callAny(below(bounds.length));
            }
        }
    }

    private void callAny(int m) {
        Object[] values = new Object[bounds[m].length - 1];
        for (int a = 0; a < values.length; a++) {
            String bound = bounds[m][1 + a];
            values[a] = bound.equals("b") ? (Object) random.nextBoolean() : (Object) argument(bound);
        }
        if (bounds[m][0].equals("go") && below(3) > 0) {
            values[0] = below(4);
        }
        call(m, values);
    }

    private int argument(String bound) {
        if (below(40) == 0) {
            return WILD[below(WILD.length)];
        }
        switch (bound) {
            case "x": return within(0, 3 * model.rule(0) - 1);
            case "nx": return below(8) == 0 ? -4 : within(0, 3 * model.rule(0) - 1);
            case "c": return within(0, model.rule(0) - 1);
            case "nc": return below(8) == 0 ? -4 : within(0, model.rule(0) - 1);
            case "p": return within(0, model.rule(5) - 1);
            case "seed": return random.nextInt();
            case "v": return below(3) == 0 ? WILD[below(WILD.length)] : below(10);
            case "f": return within(0, below(3) == 0 ? 39 : 4);
            default:
                String[] both = bound.split(",");
                return within(Integer.parseInt(both[0]), Integer.parseInt(both[1]));
        }
    }

    /** Mostly inside, often at the very bound, sometimes just past it. */
    private int within(int low, int high) {
        int dice = below(20);
        if (dice == 0) {
            return below(2) == 0 ? low - 1 : high + 1;
        }
        if (dice < 6 || high < low) {
            return below(2) == 0 ? low : high;
        }
        return low + below(high - low + 1);
    }

    private void call(int m, Object... values) {
        if (calls == CALLS || !isSame) {
            return;
        }
        calls++;
        long got = answer(onClass[m], fire, values);
        long want = answer(onModel[m], model, values);
        String call = bounds[m][0] + Arrays.toString(values);
        told.append(call).append(" -> ").append(got).append('\n');
        due.is(call, got, want);
        if (got != want) {
            isSame = false;
            System.out.println(told);
        }
        if (want >= 0) {
            accepted[m]++;
        } else {
            refused[m]++;
        }
    }

    private static long answer(Method method, Object on, Object[] values) {
        try {
            return ((Number) method.invoke(on, values)).longValue();
        } catch (InvocationTargetException thrown) {
            due.holds(method + Arrays.toString(values) + " threw " + thrown.getCause(), false);
            return Long.MIN_VALUE;
        } catch (IllegalAccessException unseen) {
            throw new IllegalStateException(unseen);
        }
    }

    private void call(String name, Object... values) {
        for (int m = 0; m < bounds.length; m++) {
            if (bounds[m][0].equals(name)) {
                call(m, values);
            }
        }
    }

    private void tell(String text) {
        if (below(10) > 0) {
            call("end", 0);
        }
        for (int i = 0; i < text.length(); i++) {
            call("feed", (int) text.charAt(i));
        }
        call("text");
        call("fault");
        faults[model.fault()]++;
    }

    private String soundText() {
        int cells = 3 + below(6);
        StringBuilder text = new StringBuilder("fire " + cells + " " + below(10) / (1 + below(3)) + " " + below(10) + ";");
        for (int i = below(4); i > 0; i--) {
            text.append("heat " + below(cells) + " " + below(100) + " " + below(100) + " " + below(100) + ";");
        }
        for (int i = below(3); i > 0; i--) {
            text.append("wood " + below(cells) + " " + (1 + below(99)) + " " + (1 + below(9)) + ";");
        }
        for (int i = below(7); i > 0; i--) {
            text.append(below(4) == 0 ? "out " : "spud ").append(1 + below(9) / (1 + below(4)))
                    .append(" " + WORDS[6 + below(3)]);
            if (text.substring(text.lastIndexOf(";")).startsWith(";spud")) {
                text.append(" " + below(3 * cells));
            }
            text.append(';');
        }
        for (int i = below(3); i > 0; i--) {
            text.append("memo " + below(3) + " " + below(cells + 1) + ";");
        }
        return text.toString();
    }

    /** A sound text with a word put for one of its own, or words alone. */
    private String wildText() {
        StringBuilder text = new StringBuilder();
        if (below(3) == 0) {
            for (int i = below(12); i > 0; i--) {
                text.append(WORDS[below(WORDS.length)]).append(below(3) == 0 ? "" : " ");
            }
            return text.toString();
        }
        String many = below(2) == 0 ? "wood 0 1 1;" : "out 1 bare;";
        String sound = below(4) == 0 ? many.repeat(5 + below(4)) : soundText();
        int at = below(sound.length());
        String word = below(2) == 0 ? "" : WORDS[below(WORDS.length)];
        return sound.substring(0, at) + word + sound.substring(Math.min(sound.length(), at + below(3)));
    }

    private void fillSheet() {
        int k = below(4);
        int lane = below(3);
        int n = within(0, 9);
        call("sheet", k, lane, n);
        for (int i = 0; i <= n; i++) {
            call("lay", k, i, i % 2 == 0 ? 1 + below(9) : below(3));
        }
        call("read", k, below(5) == 0 ? below(3) : lane, within(0, 3), within(0, 4));
        call("torn");
    }

    private void feelTruth() {
        int x = below(3 * model.rule(0));
        int n = within(0, 20);
        int heat = model.later(x, Math.max(0, n));
        call("feel", n, x, heat);
        call("fits", below(3));
    }
}
