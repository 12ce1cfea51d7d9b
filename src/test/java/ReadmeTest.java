import java.io.IOException;
import java.lang.reflect.InvocationTargetException;
import java.lang.reflect.Method;
import java.lang.reflect.Modifier;
import java.nio.file.Files;
import java.nio.file.Path;
import java.util.ArrayList;
import java.util.List;
import java.util.Set;
import java.util.TreeSet;
import java.util.regex.Matcher;
import java.util.regex.Pattern;

/**
 * README.md: each call of its examples answers what the comment behind it begins with. The file
 * itself is read, so that it cannot say one thing and the test another.
 */
public final class ReadmeTest {
    private static final Path README = Path.of("README.md");
    private static final String EXAMPLE_BEGINS = "```java";
    private static final String EXAMPLE_ENDS = "```";
    private static final Pattern MAKING =
            Pattern.compile("ReelOffice office = new ReelOffice\\((-?\\d+)\\);(\\s+// .*)?");
    private static final Pattern CALL = Pattern.compile("office\\.(\\w+)\\(([-\\d, ]*)\\);(\\s+// (.*))?");
    private static final Pattern ANSWER = Pattern.compile("(-?\\d+|true|false|throws \\w+)(: .*)?");
    private static final String NOTHING = "nothing";

    private static final Check check = new Check();
    private static final Set<String> shown = new TreeSet<>();

    public static void main(String[] args) throws IOException {
        List<String> lines = Files.readAllLines(README);
        check.at("README.md");
        examples(lines);
        check.due("methods in its examples", shown, methods());
        wordOnNone(lines);
        tests(lines);
        check.end();
    }

    private static void examples(List<String> lines) {
        ReelOffice office = null;
        boolean inside = false;
        for (int k = 0; k < lines.size(); k++) {
            String line = lines.get(k);
            check.at("README.md, line " + (k + 1));
            if (!inside) {
                check.due(line + " is a call outside an example", CALL.matcher(line).matches(), false);
                inside = line.equals(EXAMPLE_BEGINS);
                office = null;
            } else if (line.equals(EXAMPLE_ENDS)) {
                inside = false;
            } else {
                office = follow(office, line);
            }
        }
        check.at("README.md");
        check.due("last example has an end", !inside, true);
    }

    /** A line that is neither the making of an object nor a call cannot be tested: it is wrong. */
    private static ReelOffice follow(ReelOffice office, String line) {
        Matcher making = MAKING.matcher(line);
        if (making.matches()) {
            return new ReelOffice(Integer.parseInt(making.group(1)));
        }
        Matcher call = CALL.matcher(line);
        if (office == null || !call.matches()) {
            check.due(line, "no call on an office", "a call on an office");
            return office;
        }
        shown.add(call.group(1));
        check.due(line, answer(office, call.group(1), numbers(call.group(2))), named(call));
        return office;
    }

    private static String named(Matcher call) {
        Matcher answer = ANSWER.matcher(call.group(4) == null ? "" : call.group(4));
        return answer.matches() ? answer.group(1) : NOTHING;
    }

    private static List<Integer> numbers(String text) {
        List<Integer> numbers = new ArrayList<>();
        for (String number : text.split(",")) {
            if (!number.isBlank()) {
                numbers.add(Integer.valueOf(number.strip()));
            }
        }
        return numbers;
    }

    private static String answer(ReelOffice office, String name, List<Integer> arguments) {
        for (Method method : ReelOffice.class.getDeclaredMethods()) {
            if (method.getName().equals(name) && method.getParameterCount() == arguments.size()) {
                return answer(office, method, arguments);
            }
        }
        return "no such method";
    }

    private static String answer(ReelOffice office, Method method, List<Integer> arguments) {
        try {
            Object answer = method.invoke(office, arguments.toArray());
            return answer == null ? NOTHING : answer.toString();
        } catch (InvocationTargetException e) {
            return "throws " + e.getCause().getClass().getSimpleName();
        } catch (IllegalAccessException e) {
            return "no open method";
        }
    }

    private static Set<String> methods() {
        Set<String> names = new TreeSet<>();
        for (Method method : ReelOffice.class.getDeclaredMethods()) {
            if (Modifier.isPublic(method.getModifiers())) {
                names.add(method.getName());
            }
        }
        return names;
    }

    private static void wordOnNone(List<String> lines) {
        String word = "`ReelOffice.NONE`, which is " + ReelOffice.NONE + ",";
        check.due(word, String.join(" ", lines).contains(word), true);
    }

    /** Every test that .ci/run finds is told of, and none that is gone. */
    private static void tests(List<String> lines) throws IOException {
        Set<String> told = new TreeSet<>();
        for (String line : lines) {
            Matcher item = Pattern.compile("- `(\\w+Test)`: .*").matcher(line);
            if (item.matches()) {
                told.add(item.group(1) + ".java");
            }
        }
        Set<String> there = new TreeSet<>();
        try (var files = Files.newDirectoryStream(Path.of("src/test/java"), "*Test.java")) {
            files.forEach(file -> there.add(file.getFileName().toString()));
        }
        check.due("tests", told, there);
    }
}
