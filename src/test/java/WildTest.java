import java.lang.reflect.InvocationTargetException;
import java.lang.reflect.Method;
import java.util.ArrayList;
import java.util.Arrays;
import java.util.Comparator;
import java.util.List;
import java.util.Random;

/** Any calls with any arguments in any state: none throws, and the same calls answer the same. */
public final class WildTest {
    private static final int[] WILD = {0, 1, 2, 3, 4, 5, 6, 7, 8, 9, 10, 11, 12, 13, 15, 20, 21, 23, 24, 39, 40,
        41, 59, 60, 61, 99, 100, 127, 128, 159, 160, 161, -1, -2, -3, -4, -5, 1000, Integer.MAX_VALUE,
        Integer.MIN_VALUE, Integer.MAX_VALUE - 1, Integer.MIN_VALUE + 1, 1 << 30, -(1 << 30)};
    private static final String[] WORDS = {"fire", "heat", "wood", "spud", "out", "memo", "bare", "clay",
        "foil", ";", ";", ";", " ", "0", "1", "2", "3", "4", "5", "7", "8", "9", "12", "23", "99", "100", "?"};
    private static final String[] LINES = {"fire 4 1 2;", "fire 8 0 0;", "heat 0 99 80 70;", "heat 1 90 60 50;",
        "heat 2 30 40 50;", "wood 1 80 3;", "wood 0 9 1;", "spud 1 bare 0;", "spud 3 clay 4;", "spud 9 foil 8;",
        "spud 2 foil 5;", "out 4 bare;", "memo 0 1;", "memo 1 2;"};

    private static final Due due = new Due("WildTest");
    private static int taken;
    private static int torn;
    /** How many calls the object of this run is used for: 512 at most. */
    private static int made;

    public static void main(String[] args) {
        List<Method> calls = new ArrayList<>();
        for (Method method : EmberSpuds.class.getDeclaredMethods()) {
            if (java.lang.reflect.Modifier.isPublic(method.getModifiers())) {
                calls.add(method);
            }
        }
        calls.sort(Comparator.comparing(Method::getName));
        due.is("public methods", calls.size(), 40);
        for (int seed = 0; seed < 600; seed++) {
            long first = run(calls, new Random(seed));
            due.is("run " + seed + " again", run(calls, new Random(seed)), first);
        }
        due.holds("texts were taken", taken > 500);
        due.holds("texts were refused", torn > 500);
        due.close();
    }

    private static long run(List<Method> calls, Random random) {
        EmberSpuds fire = new EmberSpuds();
        long sum = 0;
        made = 0;
        while (made < 512) {
            // A text takes up to a whole tape of bytes, and what lies ahead of it and behind.
            if (random.nextInt(24) == 0 && made < 512 - 170) {
                tell(fire, random);
            }
            made++;
            Method method = calls.get(random.nextInt(calls.size()));
            Object[] values = new Object[method.getParameterCount()];
            for (int a = 0; a < values.length; a++) {
                values[a] = method.getParameterTypes()[a] == boolean.class ? random.nextBoolean()
                        : (Object) argument(random);
            }
            sum = 31 * sum + call(fire, method, values);
        }
        return sum;
    }

    private static int argument(Random random) {
        return random.nextInt(3) == 0 ? WILD[random.nextInt(WILD.length)] : random.nextInt(8);
    }

    private static void tell(EmberSpuds fire, Random random) {
        fire.end(0);
        made += 2;
        boolean isWild = random.nextBoolean();
        String[] parts = isWild ? WORDS : LINES;
        for (int i = random.nextInt(10); i > 0; i--) {
            String part = parts[random.nextInt(parts.length)];
            Due.feedAll(fire, part);
            made += part.length();
        }
        if (fire.text() >= 0) {
            taken++;
        } else {
            torn++;
        }
    }

    private static long call(EmberSpuds fire, Method method, Object[] values) {
        try {
            return ((Number) method.invoke(fire, values)).longValue();
        } catch (InvocationTargetException thrown) {
            due.holds(method.getName() + Arrays.toString(values) + " threw " + thrown.getCause(), false);
            return 0;
        } catch (IllegalAccessException unseen) {
            due.holds(method.getName() + " can't be called", false);
            return 0;
        }
    }
}
