import java.io.IOException;
import java.lang.reflect.Method;
import java.nio.file.Files;
import java.nio.file.Path;
import java.util.ArrayList;
import java.util.Arrays;
import java.util.List;
import java.util.regex.Matcher;
import java.util.regex.Pattern;

/** The example of README.md answers what its comments say, and its table tells every call of the face. */
public final class ReadmeTest {
    private static final Pattern WRITTEN = Pattern.compile("\"([^\"]*)\"\\.toCharArray\\(\\)\\) x\\.write\\(c\\);");
    private static final Pattern CALL = Pattern.compile("x\\.(\\w+)\\(([\\d, ]*)\\);");

    private static final Due due = new Due();

    public static void main(String[] args) throws IOException, ReflectiveOperationException {
        String readme = Files.readString(Path.of("README.md"));
        example(readme);
        table(readme);
        due.end("ReadmeTest");
    }

    private static void example(String readme) throws ReflectiveOperationException {
        int start = readme.indexOf("```java\n") + "```java\n".length();
        LoadWeights x = new LoadWeights();
        int calls = 0;
        for (String line : readme.substring(start, readme.indexOf("```", start)).split("\n")) {
            Matcher written = WRITTEN.matcher(line);
            if (written.find()) {
                Due.write(x, written.group(1));
            } else if (line.startsWith("x.")) {
                calls += answers(x, line);
            }
        }
        due.is("the example has calls", 1, calls >= 10 ? 1 : 0);
    }

    /** What stands behind // as far as the : are the answers, one for each call of the line. */
    private static int answers(LoadWeights x, String line) throws ReflectiveOperationException {
        String[] wanted = line.substring(line.indexOf("//") + 2, line.lastIndexOf(':')).trim().split(", ");
        Matcher call = CALL.matcher(line);
        int found = 0;
        while (call.find()) {
            String want = found < wanted.length ? wanted[found] : "nothing";
            due.is("README: " + call.group(), number(want), answer(x, call.group(1), call.group(2)));
            found++;
        }
        due.is("README: calls and answers of " + line, wanted.length, found);
        return found;
    }

    private static int number(String told) throws ReflectiveOperationException {
        return told.matches("\\d+") ? Integer.parseInt(told) : LoadWeights.class.getField(told).getInt(null);
    }

    private static int answer(LoadWeights x, String name, String told) throws ReflectiveOperationException {
        List<Class<?>> types = new ArrayList<>();
        List<Object> numbers = new ArrayList<>();
        for (String number : told.isEmpty() ? new String[0] : told.split(", ")) {
            types.add(int.class);
            numbers.add(Integer.valueOf(number));
        }
        Method method = LoadWeights.class.getMethod(name, types.toArray(new Class<?>[0]));
        return (int) method.invoke(x, numbers.toArray());
    }

    private static void table(String readme) {
        long rows = readme.lines().filter(line -> line.matches("\\| `\\w+\\([\\w, ]*\\)` .*")).count();
        long calls = Arrays.stream(LoadWeights.class.getMethods())
            .filter(m -> m.getDeclaringClass() == LoadWeights.class)
            .peek(m -> due.is("README has a row for " + m.getName(), 1, readme.contains("| `" + m.getName() + "(") ? 1 : 0))
            .count();
        due.is("README: rows", calls, rows);
    }
}
