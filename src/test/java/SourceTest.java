import java.io.IOException;
import java.lang.reflect.Constructor;
import java.lang.reflect.Field;
import java.lang.reflect.Method;
import java.lang.reflect.Modifier;
import java.nio.file.Files;
import java.nio.file.Path;
import java.util.Arrays;
import java.util.Set;
import java.util.TreeSet;
import java.util.regex.Matcher;
import java.util.regex.Pattern;

/** The public face of the document, and what of LANGUAGE.md can be seen in the source. */
public final class SourceTest {
    private static final String[] FACE = {"int feed(int)", "int end(int)", "int text()", "int fault()",
        "int rule(int)", "int heat(int)", "int wood(int,int)", "int spud(int,int)", "int fan(int,int)",
        "int ash(int,int)", "int stoke(int,int,int)", "int add(int,int)", "int dig(int,int)", "int turn(int)",
        "int wrap(int,int)", "int memo(int,int)", "int rake(int,boolean)", "int go(int)",
        "int ahead(int,int,int)", "int later(int,int)", "int when(int,int)", "int places(int,int)",
        "int flip(int,int)", "int least(int,int)", "int best(int)", "int feel(int,int,int)",
        "int forget(int)", "int fits(int)", "long lies(int,int,int)", "long next(int)", "int takes(int)",
        "long morning(int)", "int drift(int,int,int)", "int keep(int)", "int back(int)",
        "int sheet(int,int,int)", "int lay(int,int,int)", "int read(int,int,int,int)", "int torn()",
        "int count(int)"};
    private static final Due due = new Due("SourceTest");

    public static void main(String[] args) throws IOException {
        face();
        String source = Files.readString(Path.of("src/main/java/EmberSpuds.java"));
        words(source);
        methods(source);
        makesNoObjects(source);
        due.close();
    }

    private static void face() {
        Class<?> type = EmberSpuds.class;
        due.holds("public and final", Modifier.isPublic(type.getModifiers()) && Modifier.isFinal(type.getModifiers()));
        Set<String> face = new TreeSet<>();
        for (Method method : type.getDeclaredMethods()) {
            if (!Modifier.isPrivate(method.getModifiers())) {
                String parameters = String.join(",",
                        Arrays.stream(method.getParameterTypes()).map(Class::getName).toArray(String[]::new));
                face.add(method.getReturnType().getName() + " " + method.getName() + "(" + parameters + ")");
            }
        }
        Set<String> dueFace = new TreeSet<>(Arrays.asList(FACE));
        due.holds("the face is " + face, face.equals(dueFace));
        Constructor<?>[] constructors = type.getDeclaredConstructors();
        due.is("constructors", constructors.length, 1);
        due.is("its parameters", constructors[0].getParameterCount(), 0);
        Set<String> constants = new TreeSet<>();
        for (Field field : type.getDeclaredFields()) {
            if (!Modifier.isPrivate(field.getModifiers())) {
                constants.add(field.getName());
            }
            due.holds(field + " is final if static",
                    !Modifier.isStatic(field.getModifiers()) || Modifier.isFinal(field.getModifiers()));
        }
        due.holds("the constants are " + constants, constants.equals(Set.of("BAD", "STATE", "FULL", "NONE")));
        due.is("BAD", EmberSpuds.BAD, -1);
        due.is("STATE", EmberSpuds.STATE, -2);
        due.is("FULL", EmberSpuds.FULL, -3);
        due.is("NONE", EmberSpuds.NONE, -4);
        nested(type.getDeclaredClasses());
    }

    private static void nested(Class<?>[] types) {
        due.holds("some twelve classes", types.length <= 12);
        for (Class<?> nested : types) {
            due.holds(nested + " is static", Modifier.isStatic(nested.getModifiers()));
            due.holds(nested + " is private", Modifier.isPrivate(nested.getModifiers()));
            due.holds(nested + " has some twenty fields", nested.getDeclaredFields().length <= 24);
            for (Method method : nested.getDeclaredMethods()) {
                due.holds(method + " bears no public name",
                        Arrays.stream(FACE).noneMatch(f -> f.contains(" " + method.getName() + "(")));
                due.holds(method + " has seven parameters at most", method.getParameterCount() <= 7);
            }
        }
    }

    private static void words(String source) {
        String[] forbidden = {"throw", "throws", "try", "catch", "finally", "synchronized", "assert", "protected",
            "double", "float", "lambda", "record", "Random", "Thread", "File", "Object", "hashCode", "toString"};
        for (String word : forbidden) {
            due.holds("no " + word, !Pattern.compile("\\b" + word + "\\b").matcher(code(source)).find());
        }
        due.holds("no lambda", !code(source).contains("->"));
        due.holds("no method reference", !code(source).contains("::"));
        due.holds("no + between texts", !Pattern.compile("\"\\s*\\+|\\+\\s*\"").matcher(source).find());
        Matcher imports = Pattern.compile("(?m)^import (.*);").matcher(source);
        while (imports.find()) {
            due.holds(imports.group(1), imports.group(1).equals("java.util.Arrays"));
        }
        for (int i = 0; i < source.length(); i++) {
            if (source.charAt(i) > 126) {
                due.holds("plain signs alone", false);
            }
        }
    }

    private static String code(String source) {
        return source.replaceAll("(?s)/\\*.*?\\*/", "").replaceAll("//.*", "").replaceAll("\"[^\"]*\"", "\"\"");
    }

    /** Methods stay short: some sixty lines. */
    private static void methods(String source) {
        String[] lines = source.split("\n");
        int begin = -1;
        String end = "";
        for (int i = 0; i < lines.length; i++) {
            Matcher head = Pattern.compile("^( {4}| {8})[\\w\\[\\] ]+ \\w+\\([^;]*\\) \\{$").matcher(lines[i]);
            if (head.find()) {
                begin = i;
                end = head.group(1) + "}";
            } else if (begin >= 0 && lines[i].equals(end)) {
                due.holds("line " + (begin + 1) + " begins a short method", i - begin <= 60);
                begin = -1;
            }
        }
    }
    /** Rows are made with the object: new stands in the first value of a field or in Evening() alone. */
    private static void makesNoObjects(String source) {
        int made = 0;
        for (String line : code(source).split("\n")) {
            if (Pattern.compile("\\bnew\\b").matcher(line).find()) {
                made++;
                boolean isField = line.matches("^( {4}private| {8}) ?final [\\w\\[\\]]+ \\w+ = .*;$");
                due.holds(line.trim() + " is made with the object",
                        isField || line.trim().equals("spuds[p] = new Spud();"));
            }
        }
        due.holds("rows are made at all", made > 10);
    }
}
