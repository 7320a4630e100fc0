import java.io.IOException;
import java.lang.reflect.Constructor;
import java.lang.reflect.Field;
import java.lang.reflect.Method;
import java.lang.reflect.Modifier;
import java.nio.charset.StandardCharsets;
import java.nio.file.Files;
import java.nio.file.Path;
import java.util.ArrayList;
import java.util.Arrays;
import java.util.HashMap;
import java.util.HashSet;
import java.util.List;
import java.util.Map;
import java.util.Set;
import java.util.TreeSet;
import java.util.regex.Matcher;
import java.util.regex.Pattern;

/** The class has just the document's face, and its file keeps to LANGUAGE.md as far as this can be seen. */
public final class FaceTests {
    private static final String FACE = """
        int feed(int) int train() int fault() int told(int) int car(int,int) int sleeper(int,int)
        int interval(int,int) int put(int,int) int off(int) int hour(int) int evening() int drift(int)
        int undo() int wake() int shunted(int) int madeUp(int) int moves(int) int laws(int,int)
        int pitches(int,int,int) int bestCar(int,int) int alike(int,int) int sounds(int,int,int)
        int cold(int,int) int write(int,boolean) int tear() int judge() int seed(int) int keep(int)
        int goBack(int)""";
    private static final String[] FORBIDDEN = {"throw", "throws", "try", "catch", "synchronized", "assert",
        "protected", "instanceof", "finally", "equals", "hashCode", "toString", "System", "MAX_VALUE"};
    private static final int MOST_LINES = 60, MOST_PARAMETERS = 7, MOST_CLASSES = 12, MOST_FIELDS = 20;
    private static final int MOST_DEPTH = 8;
    private static final Pattern METHOD = Pattern.compile("( {4,8})\\w.* (\\w+)\\(.*\\) \\{");
    private static final Pattern CALL = Pattern.compile("\\b(\\w+)\\(");

    private static final Checks checks = new Checks("FaceTests");

    private FaceTests() {
    }

    public static void main(String[] args) throws IOException {
        face();
        constants();
        List<Class<?>> classes = new ArrayList<>(Arrays.asList(SnoreCars.class.getDeclaredClasses()));
        classes.add(SnoreCars.class);
        checks.holds("more than twelve classes", classes.size() <= MOST_CLASSES);
        for (Class<?> one : classes) {
            members(one);
        }
        source(Files.readString(Path.of("src/main/java/SnoreCars.java"), StandardCharsets.ISO_8859_1));
        checks.end();
    }

    private static String told(Method m) {
        StringBuilder told = new StringBuilder(m.getReturnType().getSimpleName());
        told.append(' ').append(m.getName()).append('(');
        for (int i = 0; i < m.getParameterCount(); i++) {
            told.append(i == 0 ? "" : ",").append(m.getParameterTypes()[i].getSimpleName());
        }
        return told.append(')').toString();
    }

    private static void face() {
        Set<String> due = new TreeSet<>(Arrays.asList(FACE.split("\\s+(?=int )")));
        Set<String> found = new TreeSet<>();
        for (Method m : SnoreCars.class.getDeclaredMethods()) {
            if (!Modifier.isPrivate(m.getModifiers())) {
                found.add(told(m));
                checks.holds(m + " is not plainly public", m.getModifiers() == Modifier.PUBLIC);
            }
        }
        checks.holds("the methods are " + found + ", due are " + due, found.equals(due));
        Constructor<?>[] all = SnoreCars.class.getDeclaredConstructors();
        checks.holds("not one public constructor", all.length == 1 && all[0].getParameterCount() == 0
            && all[0].getModifiers() == Modifier.PUBLIC);
        checks.holds("the class is not public final",
            SnoreCars.class.getModifiers() == (Modifier.PUBLIC | Modifier.FINAL));
    }

    private static void constants() {
        Set<String> found = new TreeSet<>();
        for (Field f : SnoreCars.class.getDeclaredFields()) {
            if (!Modifier.isPrivate(f.getModifiers())) {
                found.add(f.getName());
            }
        }
        checks.holds("the constants are " + found,
            found.equals(Set.of("NONE", "UNKNOWN", "OUTSIDE", "NOT", "FULL")));
        checks.same("NONE", SnoreCars.NONE, -1);
        checks.same("UNKNOWN", SnoreCars.UNKNOWN, -1000000001);
        checks.same("OUTSIDE", SnoreCars.OUTSIDE, -1000000002);
        checks.same("NOT", SnoreCars.NOT, -1000000003);
        checks.same("FULL", SnoreCars.FULL, -1000000004);
    }

    private static void members(Class<?> one) {
        Set<String> face = new HashSet<>();
        for (Method m : SnoreCars.class.getMethods()) {
            face.add(m.getName());
        }
        int fields = 0;
        for (Field f : one.getDeclaredFields()) {
            boolean isStatic = Modifier.isStatic(f.getModifiers());
            fields += isStatic ? 0 : 1;
            checks.holds(f + " is not final", !isStatic || Modifier.isFinal(f.getModifiers()));
        }
        checks.holds(one + " has " + fields + " fields", fields <= MOST_FIELDS);
        for (Method m : one.getDeclaredMethods()) {
            checks.holds(m + " takes too much", m.getParameterCount() <= MOST_PARAMETERS);
            checks.holds(m + " bears the name of a public one",
                one == SnoreCars.class && Modifier.isPublic(m.getModifiers()) || !face.contains(m.getName()));
        }
        checks.holds(one + " is no static class", one == SnoreCars.class || Modifier.isStatic(one.getModifiers()));
    }

    private static void source(String file) {
        String code = file.replaceAll("(?s)/\\*.*?\\*/", "").replaceAll("//[^\\n]*", "");
        checks.holds("a sign above 127", file.chars().allMatch(c -> c < 128));
        checks.holds("a lambda or a switch with arrows", !code.contains("->"));
        checks.holds("a method reference", !code.contains("::"));
        checks.holds("texts", !code.contains("\""));
        for (String word : FORBIDDEN) {
            checks.holds("the word " + word, !Pattern.compile("\\b" + word + "\\b").matcher(code).find());
        }
        Matcher imports = Pattern.compile("import ([\\w.]+);").matcher(code);
        while (imports.find()) {
            checks.holds("the import " + imports.group(1), imports.group(1).equals("java.util.Arrays"));
        }
        Matcher uses = Pattern.compile("\\b(Arrays|Math|Integer|Long)\\.(\\w+)").matcher(code);
        Set<String> free = Set.of("Arrays.fill", "Math.abs", "Math.min", "Math.max", "Integer.bitCount");
        while (uses.find()) {
            checks.holds("the use of " + uses.group(), free.contains(uses.group()));
        }
        checks.holds("rows made by a call", newOutsideConstructors(code) == 0);
        methodLengths(code);
        callDepths(code);
    }

    /** All rows are made with the object: 'new' stands in constructors and in the fields of classes alone. */
    private static int newOutsideConstructors(String code) {
        int found = 0;
        boolean isInConstructor = false;
        for (String line : code.split("\n")) {
            if (line.matches("\\s+(public |private )?[A-Z]\\w*\\(.*\\) \\{")) {
                isInConstructor = true;
            } else if (line.matches(" {4,8}\\}")) {
                isInConstructor = false;
            }
            boolean isField = line.matches("\\s+(private )?final \\w+(\\[\\])? \\w+ = new .*");
            if (line.contains("new ") && !isInConstructor && !isField) {
                found++;
                System.out.println("made by a call: " + line);
            }
        }
        return found;
    }

    private static void methodLengths(String code) {
        String[] lines = code.split("\n");
        for (int i = 0; i < lines.length; i++) {
            if (lines[i].matches(" {4,8}\\w.*\\) \\{") && !lines[i].contains(" class ")) {
                String end = lines[i].replaceAll("\\S.*", "") + "}";
                int n = 0;
                while (i + n < lines.length && !lines[i + n].equals(end)) {
                    n++;
                }
                checks.holds("too long: " + lines[i].trim(), n < MOST_LINES);
            }
        }
    }

    /** Methods of one name count as one, so that no depth is told too small. */
    private static void callDepths(String code) {
        Map<String, Set<String>> calls = new HashMap<>();
        String name = null;
        String end = null;
        for (String line : code.split("\n")) {
            Matcher method = METHOD.matcher(line);
            if (name == null && method.matches()) {
                name = method.group(2);
                end = method.group(1) + "}";
                calls.putIfAbsent(name, new TreeSet<>());
            } else if (line.equals(end)) {
                name = null;
            } else if (name != null) {
                Matcher call = CALL.matcher(line);
                while (call.find()) {
                    calls.get(name).add(call.group(1));
                }
            }
        }
        for (Method m : SnoreCars.class.getDeclaredMethods()) {
            checks.holds(m.getName() + " was not found in the file", calls.containsKey(m.getName()));
        }
        for (String one : calls.keySet()) {
            int depth = depthOf(one, calls, MOST_DEPTH + 1);
            checks.holds("calls go too deep, or come back: " + one, depth <= MOST_DEPTH);
        }
    }

    /** How deep calls go from a method of the file on, itself counted; no deeper than a limit is looked. */
    private static int depthOf(String name, Map<String, Set<String>> calls, int limit) {
        int deepest = 0;
        for (String called : calls.get(name)) {
            if (limit > 1 && calls.containsKey(called)) {
                deepest = Math.max(deepest, depthOf(called, calls, limit - 1));
            }
        }
        return deepest + 1;
    }
}
