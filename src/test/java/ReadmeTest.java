import java.io.IOException;
import java.lang.reflect.Method;
import java.nio.file.Files;
import java.nio.file.Path;
import java.util.ArrayList;
import java.util.Arrays;
import java.util.List;
import java.util.Set;
import java.util.TreeSet;
import java.util.regex.Pattern;
import java.util.stream.Collectors;

/** README.md: its examples answer as it says, and it tells every method as the class has it. */
public final class ReadmeTest {
    private static final String[] EXCEPTIONS = {"IllegalArgumentException", "IllegalStateException"};

    public static void main(String[] args) throws IOException {
        List<String> rows = Files.readAllLines(Path.of("README.md"));
        Run.sentence("README.md: the calls of the examples answer as it says", () -> examples(rows));
        Run.sentence("README.md: how an object is made", () -> making(rows));
        Run.sentence("README.md: what each method does, answers and throws", () -> methods(rows));
        Run.sentence("README.md: the constants", () -> constants(rows));
        Run.sentence("README.md: what is not promised", () -> has(rows, "## Not promised", "after its 512th call"));
        Run.sentence("README.md: how to run the tests", () -> has(rows, "## Tests", ".ci/run"));
        Run.finish();
    }

    private static void examples(List<String> rows) {
        List<String> called = new ArrayList<>();
        for (Example example : examplesOf(rows)) {
            example.run();
            called.addAll(example.called());
        }
        long shown = rows.stream().filter(row -> row.startsWith("bank.")).count();
        Run.compare("README.md: the calls that were made, of all that it shows", String.valueOf(called.size()), shown);
        Set<String> methods = ownMethods().stream().map(Method::getName).collect(Collectors.toCollection(TreeSet::new));
        Run.compare("README.md: the methods in the examples", new TreeSet<>(called).toString(), methods);
    }

    private static List<Example> examplesOf(List<String> rows) {
        List<Example> examples = new ArrayList<>();
        for (int i = 0; i < rows.size(); i++) {
            if (rows.get(i).startsWith("```java")) {
                List<String> inside = rows.subList(i + 1, rows.size());
                int length = inside.indexOf("```");
                examples.add(new Example(inside.subList(0, length < 0 ? inside.size() : length)));
            }
        }
        return examples;
    }

    private static void making(List<String> rows) {
        has(rows, "## How an object is made", "new ReplayJournal(int accounts, int journal)");
    }

    private static void methods(List<String> rows) {
        for (Method method : ownMethods()) {
            String name = method.getName();
            String told = section(rows, "### " + name);
            Run.compare("README.md tells the face of " + name,
                String.valueOf(Pattern.compile(face(method)).matcher(told).find()), true);
            has(rows, "### " + name, "- Answers: ");
            has(rows, "### " + name, "- Throws: ");
            thrown(method, told.substring(told.indexOf("- Throws: ") + 1));
        }
    }

    private static void thrown(Method method, String told) {
        List<String> due = namesOf(method.getExceptionTypes());
        for (String exception : EXCEPTIONS) {
            Run.compare("README.md tells that " + method.getName() + " throws " + exception,
                String.valueOf(told.contains(exception)), due.contains(exception));
        }
    }

    private static void constants(List<String> rows) {
        for (String constant : new String[] {"NONE = -1", "FULL = -2", "CUT = -3", "POOR = -4"}) {
            has(rows, "## Terms", "`" + constant + "`");
        }
    }

    private static void has(List<String> rows, String heading, String words) {
        Run.compare("README.md has under " + heading + ": " + words,
            String.valueOf(section(rows, heading).contains(words)), true);
    }

    /** What stands below a heading, up to the next one, in one row. */
    private static String section(List<String> rows, String heading) {
        int start = rows.indexOf(heading);
        if (start < 0) {
            return "";
        }
        return rows.stream().skip(start + 1).takeWhile(row -> !row.startsWith("#")).collect(Collectors.joining(" "));
    }

    /** A pattern, as the class does not keep the parameters' names. */
    private static String face(Method method) {
        List<String> parameters = namesOf(method.getParameterTypes());
        List<String> thrown = namesOf(method.getExceptionTypes());
        return "`" + method.getReturnType().getSimpleName() + " " + method.getName() + "\\("
            + parameters.stream().map(type -> type + " [a-z]+").collect(Collectors.joining(", ")) + "\\)"
            + (thrown.isEmpty() ? "" : " throws " + String.join(", ", thrown)) + "`";
    }

    private static List<String> namesOf(Class<?>[] types) {
        return Arrays.stream(types).map(Class::getSimpleName).toList();
    }

    private static List<Method> ownMethods() {
        return Arrays.stream(ReplayJournal.class.getMethods())
            .filter(m -> m.getDeclaringClass() == ReplayJournal.class).toList();
    }
}
