import java.io.IOException;
import java.lang.reflect.Method;
import java.lang.reflect.Modifier;
import java.nio.file.Files;
import java.nio.file.Path;
import java.util.Arrays;
import java.util.Set;
import java.util.TreeSet;
import java.util.regex.Matcher;
import java.util.regex.Pattern;
import java.util.stream.Collectors;
import java.util.stream.Stream;

/** README.md against the project as it stands: what it shows, lists and says of refusals is so. */
public final class ReadmeTest {
    private static final Due due = new Due("ReadmeTest");

    public static void main(String[] args) throws IOException, ReflectiveOperationException {
        String page = Files.readString(Path.of("README.md"));
        example(page);
        calls(section(page, "### The calls"));
        refusals();
        classes(section(page, "## How it is built"));
        tests(section(page, "## Tests"));
        due.close();
    }

    private static String section(String page, String title) {
        int begin = page.indexOf("\n" + title + "\n");
        due.holds("there is a section " + title, begin >= 0);
        String rest = page.substring(begin + 1 + title.length());
        Matcher following = Pattern.compile("(?m)^##+ ").matcher(rest);
        return following.find() ? rest.substring(0, following.start()) : rest;
    }

    /** Each call of the example answers the number with which its comment begins. */
    private static void example(String page) throws ReflectiveOperationException {
        Matcher block = Pattern.compile("(?s)```java\n(.*?)```").matcher(page);
        due.holds("there is an example", block.find());
        Matcher text = Pattern.compile("String text = \"([^\"]*)\"").matcher(block.group(1));
        due.holds("the example has a text", text.find());
        EmberSpuds fire = new EmberSpuds();
        Due.feedAll(fire, text.group(1));
        Matcher call = Pattern.compile("(?m)^fire\\.(\\w+)\\((.*)\\); +// (-?\\d+)").matcher(block.group(1));
        int shown = 0;
        while (call.find()) {
            shown++;
            due.is(call.group(), answer(fire, call.group(1), call.group(2)), Long.parseLong(call.group(3)));
        }
        due.is("calls shown with an answer", shown, 5);
    }

    private static long answer(EmberSpuds fire, String name, String arguments) throws ReflectiveOperationException {
        Object[] values = Arrays.stream(arguments.split(", ")).filter(a -> !a.isEmpty())
                .map(a -> (Object) (a.equals("EmberSpuds.NONE") ? EmberSpuds.NONE : Integer.parseInt(a))).toArray();
        Method method = Arrays.stream(EmberSpuds.class.getMethods()).filter(m -> m.getName().equals(name))
                .findFirst().get();
        return ((Number) method.invoke(fire, values)).longValue();
    }

    /** Every call of the public face stands there, with as many numbers as it takes, and no other. */
    private static void calls(String section) {
        Set<String> listed = new TreeSet<>();
        Matcher call = Pattern.compile("`(\\w+)\\(([^)]*)\\)`").matcher(section);
        while (call.find()) {
            int numbers = call.group(2).isEmpty() ? 0 : call.group(2).split(", ").length;
            due.holds(call.group() + " is listed once", listed.add(call.group(1) + " of " + numbers));
        }
        Set<String> face = new TreeSet<>();
        for (Method method : EmberSpuds.class.getDeclaredMethods()) {
            if (Modifier.isPublic(method.getModifiers())) {
                face.add(method.getName() + " of " + method.getParameterCount());
            }
        }
        due.holds("the calls listed " + listed + " are " + face, listed.equals(face));
    }

    /** What the page says of answers other than BAD, STATE, FULL and NONE. */
    private static void refusals() {
        EmberSpuds fire = Due.told("out 1 bare;");
        due.is("text() with a fault at 4", Due.tell(fire, "out ?"), -14);
        due.is("fault()", fire.fault(), 1);
        due.is("the tape is empty then", fire.count(6), 0);
        due.is("what was told stays", fire.rule(5), 1);
        due.is("sheet() of a size below 0", fire.sheet(0, 0, -1), -14);
        due.is("lay() on nothing", fire.lay(0, 0, 1), -11);
        fire.sheet(0, 0, 4);
        due.is("lay() past the row", fire.lay(0, 4, 1), -12);
        fire.lay(0, 0, 5);
        due.is("read() whose potato 1 add() refuses", fire.read(0, 0, 0, 2), -21);
        due.is("none came", fire.rule(5), 1);
        fire.lay(0, 2, 6);
        due.is("read() past the row: those ahead come", fire.read(0, 0, 0, 3), 2);
        due.is("torn() index", fire.torn(), 2);
        due.is("they came", fire.rule(5), 3);
        due.is("read() as of another lane", fire.read(0, 1, 0, 1), 0);
        due.is("torn() another lane", fire.torn(), 3);
        due.is("read() of nothing", fire.read(1, 1, 0, 1), 0);
        due.is("torn() nothing", fire.torn(), 1);
    }

    private static void classes(String section) {
        Set<String> inside = Arrays.stream(EmberSpuds.class.getDeclaredClasses()).map(Class::getSimpleName)
                .collect(Collectors.toCollection(TreeSet::new));
        Set<String> listed = named(section, "`([A-Z]\\w+)`");
        due.holds("the classes listed " + listed + " are " + inside, listed.equals(inside));
    }

    private static void tests(String section) throws IOException {
        Set<String> there;
        try (Stream<Path> files = Files.list(Path.of("src/test/java"))) {
            there = files.map(f -> f.getFileName().toString()).filter(f -> f.endsWith("Test.java"))
                    .map(f -> f.replace(".java", "")).collect(Collectors.toCollection(TreeSet::new));
        }
        Set<String> listed = named(section, "(?m)^\\| `(\\w+Test)` \\|");
        due.holds("the tests listed " + listed + " are " + there, listed.equals(there));
        Set<String> promised = new TreeSet<>();
        Matcher row = Pattern.compile("(?m)^\\| `[A-Z][a-z]+Test` \\| ([0-9 ,to]+) \\|").matcher(section);
        while (row.find()) {
            for (String part : row.group(1).split(", ")) {
                String[] ends = part.split(" to ");
                for (int n = Integer.parseInt(ends[0]); n <= Integer.parseInt(ends[ends.length - 1]); n++) {
                    promised.add(Integer.toString(n));
                }
            }
        }
        due.is("promises with a test of their own", promised.size(), 41);
    }

    private static Set<String> named(String section, String pattern) {
        Set<String> names = new TreeSet<>();
        Matcher name = Pattern.compile(pattern).matcher(section);
        while (name.find()) {
            names.add(name.group(1));
        }
        return names;
    }
}
