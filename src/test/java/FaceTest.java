import java.io.IOException;
import java.lang.reflect.Field;
import java.lang.reflect.Method;
import java.lang.reflect.Modifier;
import java.nio.file.Files;
import java.nio.file.Path;
import java.util.ArrayList;
import java.util.Arrays;
import java.util.List;
import java.util.Map;
import java.util.Set;
import java.util.TreeMap;
import java.util.regex.Matcher;
import java.util.regex.Pattern;

/** The public face is the document's and no more, and the source keeps to what LANGUAGE.md says of words and members. */
public final class FaceTest {
    private static final Due due = new Due();
    private static final Path SOURCE = Path.of("src/main/java/LoadWeights.java");
    private static final int MOST_PARAMETERS = 7, MOST_FIELDS = 20, MOST_CLASSES = 12, MOST_LINES = 60;
    private static final Set<Class<?>> NUMBERS =
        Set.of(int.class, long.class, short.class, byte.class, char.class, boolean.class);
    private static final Set<Class<?>> CONSTANTS = Set.of(int.class, long.class, boolean.class, char.class, String.class,
        int[].class, long[].class, char[].class, byte[].class);

    public static void main(String[] args) throws IOException {
        constants();
        methods();
        classesInside();
        fieldTypes();
        methodsInside();
        words();
        library();
        lengths();
        due.end("FaceTest");
    }

    private static void yes(String what, boolean is) {
        due.is(what, 1, is ? 1 : 0);
    }

    private static void constants() {
        due.is("BAD", -1, LoadWeights.BAD);
        due.is("NO", -2, LoadWeights.NO);
        due.is("FULL", -3, LoadWeights.FULL);
        due.is("NONE", -4, LoadWeights.NONE);
        for (Field f : LoadWeights.class.getDeclaredFields()) {
            boolean isPublic = Arrays.asList("BAD", "NO", "FULL", "NONE").contains(f.getName());
            yes(f.getName() + " is " + (isPublic ? "public" : "private"),
                isPublic ? Modifier.isPublic(f.getModifiers()) : Modifier.isPrivate(f.getModifiers()));
            yes(f.getName() + " is final", Modifier.isFinal(f.getModifiers()));
        }
    }

    private static void methods() {
        Map<String, Integer> face = new TreeMap<>(Map.of("write", 1, "wipe", 0, "fault", 0, "lay", 0, "move", 2,
            "even", 2, "step", 1, "turn", 2, "undo", 0, "link", 2));
        face.putAll(Map.of("far", 2, "share", 2, "cost", 0, "tabu", 2, "best", 1, "worst", 1, "rescue", 2, "count", 1));
        yes("the class is final", Modifier.isFinal(LoadWeights.class.getModifiers()));
        due.is("constructors", 1, LoadWeights.class.getDeclaredConstructors().length);
        due.is("public constructors", 1, LoadWeights.class.getConstructors().length);
        int found = 0;
        for (Method m : LoadWeights.class.getDeclaredMethods()) {
            Integer parameters = face.get(m.getName());
            if (parameters == null) {
                yes(m.getName() + " is private", Modifier.isPrivate(m.getModifiers()));
                continue;
            }
            found++;
            due.is("parameters of " + m.getName(), parameters, m.getParameterCount());
            yes(m.getName() + " is public and answers an int",
                Modifier.isPublic(m.getModifiers()) && m.getReturnType() == int.class);
        }
        due.is("methods of the face", face.size(), found);
    }

    private static void classesInside() {
        Class<?>[] inside = LoadWeights.class.getDeclaredClasses();
        yes("at most twelve classes", inside.length < MOST_CLASSES);
        for (Class<?> c : inside) {
            yes(c + " is private and static",
                Modifier.isPrivate(c.getModifiers()) && Modifier.isStatic(c.getModifiers()));
            yes(c + " has at most twenty fields", c.getDeclaredFields().length <= MOST_FIELDS);
            for (Field f : c.getDeclaredFields()) {
                yes("static " + f + " is final", !Modifier.isStatic(f.getModifiers()) || Modifier.isFinal(f.getModifiers()));
            }
        }
    }

    private static List<Class<?>> allClasses() {
        List<Class<?>> all = new ArrayList<>(List.of(LoadWeights.class.getDeclaredClasses()));
        all.add(LoadWeights.class);
        return all;
    }

    /** Rules 3 and 5: numbers, own classes, rows of both, tables of numbers; what is static is a constant. */
    private static void fieldTypes() {
        for (Class<?> c : allClasses()) {
            for (Field f : c.getDeclaredFields()) {
                Class<?> type = f.getType();
                Class<?> row = type.isArray() ? type.getComponentType() : type;
                boolean isTable = row.isArray() && NUMBERS.contains(row.getComponentType());
                boolean isRow = NUMBERS.contains(row) || allClasses().contains(row) || row == String.class;
                yes(f + " is of a type that is told", isRow || isTable);
                yes("static " + f + " is a constant", !Modifier.isStatic(f.getModifiers()) || CONSTANTS.contains(type));
            }
        }
    }

    /** Rules 1 and 11. */
    private static void methodsInside() {
        for (Class<?> c : allClasses()) {
            for (Method m : c.getDeclaredMethods()) {
                yes(m + " has at most seven parameters", m.getParameterCount() <= MOST_PARAMETERS);
                boolean isOfTheFace = c == LoadWeights.class && Modifier.isPublic(m.getModifiers());
                for (Method face : LoadWeights.class.getMethods()) {
                    yes(m + " bears no name of the face", isOfTheFace || !m.getName().equals(face.getName()));
                }
            }
        }
    }

    private static String code() throws IOException {
        return Files.readString(SOURCE).replaceAll("(?s)/\\*.*?\\*/", "").replaceAll("//[^\n]*", "");
    }

    private static void words() throws IOException {
        String code = code();
        for (String word : new String[] {"throw", "try", "catch", "synchronized", "assert", "import", "package",
            "Exact\\(", "->", "::", "var", "protected", "native", "System", "Random", "Thread"}) {
            String pattern = Character.isLetter(word.charAt(0)) && !word.endsWith("(") ? "\\b" + word + "\\b" : word;
            yes("no '" + word + "'", !Pattern.compile(pattern).matcher(code).find());
        }
        yes("ASCII alone", code.chars().allMatch(c -> c == '\n' || c >= 32 && c < 127));
    }

    /** Rule 4: of the library the class needs these few alone. */
    private static void library() throws IOException {
        String code = code();
        List<String> may = new ArrayList<>(List.of("int", "boolean"));
        allClasses().forEach(c -> may.add(c.getSimpleName()));
        Matcher called = Pattern.compile("\\b([A-Z]\\w*[a-z]\\w*)\\.(\\w+)").matcher(code);
        while (called.find()) {
            yes(called.group() + " is told", Set.of("Math.max", "Math.min").contains(called.group()));
        }
        Matcher made = Pattern.compile("\\bnew (\\w+)").matcher(code);
        while (made.find()) {
            yes(made.group() + " is told", may.contains(made.group(1)));
        }
    }

    /** Rule 11: methods stay short. A method ends with the brace that is as far in as its first line. */
    private static void lengths() throws IOException {
        String[] lines = Files.readString(SOURCE).split("\n");
        int methods = 0;
        for (int start = 0; start < lines.length; start++) {
            Matcher head = Pattern.compile("( {4,8})[a-zA-Z][\\w\\[\\] ]*\\(.*\\) \\{").matcher(lines[start]);
            if (head.matches() && !lines[start].matches(" *(if|for|while|switch)\\b.*")) {
                int end = start;
                while (end < lines.length && !lines[end].equals(head.group(1) + "}")) {
                    end++;
                }
                methods++;
                yes("at most 60 lines: " + lines[start].trim(), end - start < MOST_LINES);
            }
        }
        yes("all methods were looked at", methods >= 60);
    }
}
