import java.io.IOException;
import java.lang.reflect.Field;
import java.lang.reflect.Method;
import java.lang.reflect.Modifier;
import java.nio.file.Files;
import java.nio.file.Path;
import java.util.Arrays;
import java.util.Map;
import java.util.TreeMap;
import java.util.regex.Pattern;

/** The public face is the document's and no more, and the source keeps to what LANGUAGE.md says of words and members. */
public final class FaceTest {
    private static final Due due = new Due();
    private static final Path SOURCE = Path.of("src/main/java/LoadWeights.java");

    public static void main(String[] args) throws IOException {
        constants();
        methods();
        classesInside();
        words();
        due.end("FaceTest");
    }

    private static void yes(String what, boolean is) {
        due.is(what, 1, is ? 1 : 0);
    }

    private static void constants() {
        due.is("BAD", -1, LoadWeights.BAD);
        due.is("NO", -2, LoadWeights.NO);
        due.is("FULL", -3, LoadWeights.FULL);
        due.is("NONE", -4, LoadWeights.NONE);
        for (Field f : LoadWeights.class.getDeclaredFields()) {
            boolean isPublic = Arrays.asList("BAD", "NO", "FULL", "NONE").contains(f.getName());
            yes(f.getName() + " is " + (isPublic ? "public" : "private"),
                isPublic ? Modifier.isPublic(f.getModifiers()) : Modifier.isPrivate(f.getModifiers()));
            yes(f.getName() + " is final", Modifier.isFinal(f.getModifiers()));
        }
    }

    private static void methods() {
        Map<String, Integer> face = new TreeMap<>(Map.of("write", 1, "wipe", 0, "fault", 0, "lay", 0, "move", 2,
            "even", 2, "step", 1, "turn", 2, "undo", 0, "link", 2));
        face.putAll(Map.of("far", 2, "share", 2, "cost", 0, "tabu", 2, "best", 1, "worst", 1, "rescue", 2, "count", 1));
        yes("the class is final", Modifier.isFinal(LoadWeights.class.getModifiers()));
        due.is("constructors", 1, LoadWeights.class.getDeclaredConstructors().length);
        due.is("public constructors", 1, LoadWeights.class.getConstructors().length);
        int found = 0;
        for (Method m : LoadWeights.class.getDeclaredMethods()) {
            Integer parameters = face.get(m.getName());
            if (parameters == null) {
                yes(m.getName() + " is private", Modifier.isPrivate(m.getModifiers()));
                continue;
            }
            found++;
            due.is("parameters of " + m.getName(), parameters, m.getParameterCount());
            yes(m.getName() + " is public and answers an int",
                Modifier.isPublic(m.getModifiers()) && m.getReturnType() == int.class);
        }
        due.is("methods of the face", face.size(), found);
    }

    private static void classesInside() {
        Class<?>[] inside = LoadWeights.class.getDeclaredClasses();
        yes("at most twelve classes", inside.length < 12);
        for (Class<?> c : inside) {
            yes(c + " is private and static",
                Modifier.isPrivate(c.getModifiers()) && Modifier.isStatic(c.getModifiers()));
            yes(c + " has at most twenty fields", c.getDeclaredFields().length <= 20);
            for (Field f : c.getDeclaredFields()) {
                yes("static " + f + " is final", !Modifier.isStatic(f.getModifiers()) || Modifier.isFinal(f.getModifiers()));
            }
        }
    }

    private static void words() throws IOException {
        String code = Files.readString(SOURCE).replaceAll("(?s)/\\*.*?\\*/", "").replaceAll("//[^\n]*", "");
        for (String word : new String[] {"throw", "try", "catch", "synchronized", "assert", "import", "package",
            "Exact\\(", "->", "::", "var", "protected", "native", "System", "Random", "Thread"}) {
            String pattern = Character.isLetter(word.charAt(0)) && !word.endsWith("(") ? "\\b" + word + "\\b" : word;
            yes("no '" + word + "'", !Pattern.compile(pattern).matcher(code).find());
        }
        yes("ASCII alone", code.chars().allMatch(c -> c == '\n' || c >= 32 && c < 127));
    }
}
