import java.lang.reflect.InvocationTargetException;
import java.lang.reflect.Method;
import java.util.Arrays;

/**
 * All calls that take a number (2, 3, 6 to 39, 41): each number at both of its bounds is taken, just
 * past them and far past them it is BAD, and what is BAD changes nothing.
 */
public final class BoundsTest {
    /**
     * A call, and for each number the one that stands there while others are tried, and its bounds
     * on Edge.rich(): 4 cells, 2 of wood, 3 potatoes, 2 felt, 11 bytes. A number without bounds is
     * never BAD; is: a boolean.
     */
    private static final String[] CALLS = {"feed 65:0..127", "end 3:0..11", "rule 1:0..6", "heat 1:0..11",
        "wood 1:0..1 1:0..2", "spud 1:0..2 1:0..9", "fan 1:0..11 5:0..99", "ash 0:0..1 5:0..9",
        "stoke 1:0..3 5:1..99 5:1..9", "add 5:1..9 1:0..2", "turn 1:0..2", "wrap 1:0..2 1:0..2", "rake 1:0..11 is",
        "go 5:0..60", "ahead 1:0..2 5:0..60 3:0..9", "later 1:0..11 5:0..60", "when 1:0..2 1:0..2",
        "places 5:0..20 10:10..12", "flip 1:0..2 5:1..20", "least 0:0..2 5:1..20", "best 1:0..1",
        "feel 5:0..20 1:0..11 5:0..99", "forget 1:0..2", "fits 1:0..2", "lies 0:0..2 3:0..11 1:0..1",
        "next 1:0..2", "morning 1:0..3", "drift 7: 5:1..60 1:0..1", "keep 1:0..1", "back 1:0..1",
        "sheet 1:0..3 1:0..2 5:0..40", "lay 1:0..3 0: 9:", "read 1:0..3 1:0..2 0: 1:0..13", "count 1:0..8"};

    private static final Edge edge = new Edge("BoundsTest");

    public static void main(String[] args) {
        for (String call : CALLS) {
            String[] parts = call.split(" ");
            for (int a = 1; a < parts.length; a++) {
                tryOne(parts, a);
            }
        }
        numbersOfTheirOwn();
        edge.close();
    }

    private static void tryOne(String[] parts, int a) {
        edge.sentence(parts[0] + ": number " + a);
        if (parts[a].equals("is")) {
            return;
        }
        String[] sides = parts[a].split(":");
        if (sides.length == 1) {
            int[] any = {0, 1, -1, 40, 41, Integer.MAX_VALUE, Integer.MIN_VALUE};
            for (int v : any) {
                taken(parts, a, v);
            }
            return;
        }
        String[] bounds = sides[1].split("\\.\\.");
        int low = Integer.parseInt(bounds[0]);
        int high = Integer.parseInt(bounds[1]);
        taken(parts, a, low);
        taken(parts, a, high);
        // Below 0 a SHEET has the machine's own fault, and 0 stands for all potatoes of places().
        if (!parts[0].equals("sheet") || a != 3) {
            bad(parts, a, low - 1);
            bad(parts, a, Integer.MIN_VALUE);
        }
        bad(parts, a, high + 1);
        bad(parts, a, Integer.MAX_VALUE);
    }

    private static void taken(String[] parts, int a, int v) {
        Object[] values = values(parts, a, v);
        String call = parts[0] + Arrays.toString(values);
        edge.is(call + " is not BAD", answer(Edge.rich(), parts[0], values) != -1 ? 1 : 0, 1);
    }

    private static void bad(String[] parts, int a, int v) {
        Object[] values = values(parts, a, v);
        String call = parts[0] + Arrays.toString(values);
        edge.leaves(call, Edge::rich, fire -> answer(fire, parts[0], values), -1);
    }

    private static Object[] values(String[] parts, int a, int v) {
        Object[] values = new Object[parts.length - 1];
        for (int i = 1; i < parts.length; i++) {
            values[i - 1] = parts[i].equals("is") ? (Object) true : (Object) Integer.valueOf(parts[i].split(":")[0]);
        }
        values[a - 1] = v;
        return values;
    }

    private static long answer(EmberSpuds fire, String name, Object[] values) {
        Method method = Arrays.stream(EmberSpuds.class.getMethods()).filter(m -> m.getName().equals(name))
                .findFirst().get();
        try {
            return ((Number) method.invoke(fire, values)).longValue();
        } catch (InvocationTargetException | IllegalAccessException thrown) {
            throw new IllegalStateException(name + Arrays.toString(values), thrown);
        }
    }

    /** Numbers beside whose bounds others stand: NONE, the 0 of places(), what has no upper bound. */
    private static void numbersOfTheirOwn() {
        edge.sentence("14 a POTATO is in a PLACE (NONE: OUT). BAD");
        edge.is("dig(1, -4)", Edge.rich().dig(1, -4), -4);
        edge.is("dig(1, 0)", Edge.rich().dig(1, 0), -4);
        edge.is("dig(1, 11)", Edge.rich().dig(1, 11), -4);
        int[] noPlaces = {-1, -2, -3, -5, 12, Integer.MIN_VALUE, Integer.MAX_VALUE};
        for (int x : noPlaces) {
            edge.leaves("dig(1, " + x + ")", Edge::rich, fire -> fire.dig(1, x), -1);
        }
        edge.sentence("17 a CELL is REMEMBERED of a POTATO (NONE: nothing). BAD");
        edge.is("memo(1, -4)", Edge.rich().memo(1, -4), -4);
        edge.is("memo(1, 0)", Edge.rich().memo(1, 0), -4);
        edge.is("memo(1, 3)", Edge.rich().memo(1, 3), -4);
        int[] noCells = {-1, -2, -3, -5, 4, Integer.MIN_VALUE, Integer.MAX_VALUE};
        for (int c : noCells) {
            edge.leaves("memo(1, " + c + ")", Edge::rich, fire -> fire.memo(1, c), -1);
        }
        int[] noPotatoes = {-1, 3, -4, Integer.MIN_VALUE, Integer.MAX_VALUE};
        for (int p : noPotatoes) {
            edge.sentence("14, 17 BAD: there is no such POTATO");
            edge.leaves("dig(" + p + ", 0)", Edge::rich, fire -> fire.dig(p, 0), -1);
            edge.leaves("dig(" + p + ", -4)", Edge::rich, fire -> fire.dig(p, -4), -1);
            edge.leaves("memo(" + p + ", 0)", Edge::rich, fire -> fire.memo(p, 0), -1);
            edge.leaves("memo(" + p + ", -4)", Edge::rich, fire -> fire.memo(p, -4), -1);
        }
        edge.sentence("23 (what 0) ..; 10 and p");
        edge.is("places(5, 0) is not BAD", Edge.rich().places(5, 0) >= 0 ? 1 : 0, 1);
        int[] noWhats = {-1, 1, 2, 8, 9, 13, 15, 16, -4, -10, Integer.MIN_VALUE + 9, Integer.MIN_VALUE + 10};
        for (int what : noWhats) {
            edge.leaves("places(5, " + what + ")", Edge::rich, fire -> fire.places(5, what), -1);
        }
        edge.leaves("places(-1, 0)", Edge::rich, fire -> fire.places(-1, 0), -1);
        edge.leaves("places(21, 0)", Edge::rich, fire -> fire.places(21, 0), -1);
        edge.sentence("32 BAD (below 0); NONE: none is left");
        edge.leaves("takes(-1)", Edge::rich, fire -> fire.takes(-1), -1);
        edge.leaves("takes(MIN)", Edge::rich, fire -> fire.takes(Integer.MIN_VALUE), -1);
        edge.leaves("takes(3)", Edge::rich, fire -> fire.takes(3), -4);
        edge.leaves("takes(MAX)", Edge::rich, fire -> fire.takes(Integer.MAX_VALUE), -4);
        edge.sentence("37 BAD: also n above 40; -10 - 4");
        edge.leaves("sheet(1, 1, -1)", Edge::rich, fire -> fire.sheet(1, 1, -1), -14);
        edge.leaves("sheet(1, 1, MIN)", Edge::rich, fire -> fire.sheet(1, 1, Integer.MIN_VALUE), -14);
        edge.leaves("sheet(4, 1, -1)", Edge::rich, fire -> fire.sheet(4, 1, -1), -1);
        edge.leaves("sheet(1, 3, -1)", Edge::rich, fire -> fire.sheet(1, 3, -1), -1);
    }
}
