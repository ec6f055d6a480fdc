import java.lang.reflect.InvocationTargetException;
import java.lang.reflect.Method;
import java.util.ArrayList;
import java.util.Arrays;
import java.util.List;
import java.util.regex.Matcher;
import java.util.regex.Pattern;

/** One example of README.md: an object is made, and each call stands with its answer behind it. */
final class Example {
    private static final String NUMBER = "(-?[0-9]+)";
    private static final Pattern MAKING = Pattern.compile(
        "ReplayJournal bank = new ReplayJournal\\(" + NUMBER + ", " + NUMBER + "\\);( +// .*)?");
    private static final Pattern CALL = Pattern.compile("bank\\.([a-zA-Z]+)\\(([^()]*)\\); +// (.*)");

    private final List<String> rows;
    private final List<String> called = new ArrayList<>();

    Example(List<String> rows) {
        this.rows = rows;
    }

    /** The method's name of each call that was made. */
    List<String> called() {
        return called;
    }

    void run() {
        Matcher making = MAKING.matcher(rows.isEmpty() ? "" : rows.get(0));
        Run.compare("README.md: an example begins with an object that is made", String.valueOf(making.matches()), true);
        if (!making.matches()) {
            return;
        }
        ReplayJournal object =
            new ReplayJournal(Integer.parseInt(making.group(1)), Integer.parseInt(making.group(2)));
        Run.compare("README.md: an example with calls", String.valueOf(rows.size() > 1), true);
        rows.stream().skip(1).forEach(row -> call(object, row));
    }

    private void call(ReplayJournal object, String row) {
        Matcher call = CALL.matcher(row);
        Run.compare("README.md: " + row + " is a call and its answer", String.valueOf(call.matches()), true);
        if (call.matches()) {
            called.add(call.group(1));
            Run.compare("README.md: " + row, answer(object, call.group(1), call.group(2)), due(call.group(3)));
        }
    }

    private static String answer(ReplayJournal object, String name, String arguments) {
        String[] texts = arguments.isEmpty() ? new String[0] : arguments.split(", ");
        Method method = Arrays.stream(ReplayJournal.class.getMethods())
            .filter(m -> m.getName().equals(name) && m.getParameterCount() == texts.length).findFirst().orElse(null);
        if (method == null) {
            return "no such method";
        }
        Object[] values = new Object[texts.length];
        for (int i = 0; i < texts.length; i++) {
            values[i] = value(method.getParameterTypes()[i], texts[i]);
        }
        try {
            Object answer = method.invoke(object, values);
            return method.getReturnType() == void.class ? Run.DONE : String.valueOf(answer);
        } catch (InvocationTargetException e) {
            return "throws." + e.getCause().getClass().getSimpleName();
        } catch (IllegalAccessException e) {
            return e.toString();
        }
    }

    /** A number without an L is an int in Java, also where a long is asked. */
    private static Object value(Class<?> type, String text) {
        if (type == long.class && text.endsWith("L")) {
            return Long.parseLong(text.substring(0, text.length() - 1));
        }
        int number = text.startsWith("ReplayJournal.")
            ? constant(text.substring("ReplayJournal.".length())) : Integer.parseInt(text);
        return type == long.class ? (Object) Long.valueOf(number) : Integer.valueOf(number);
    }

    /** What stands behind a colon says why, and is for the reader alone. */
    private static String due(String comment) {
        String word = comment.split(": ", 2)[0].trim();
        if (word.equals("nothing")) {
            return Run.DONE;
        }
        if (word.startsWith("throws ")) {
            return "throws." + word.substring("throws ".length());
        }
        return word.matches("[A-Z]+") ? String.valueOf(constant(word)) : word;
    }

    private static int constant(String name) {
        try {
            return ReplayJournal.class.getField(name).getInt(null);
        } catch (ReflectiveOperationException e) {
            throw new IllegalArgumentException("README.md names a constant that there is not: " + name);
        }
    }
}
