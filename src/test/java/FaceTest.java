import java.lang.reflect.Executable;
import java.lang.reflect.Field;
import java.lang.reflect.Method;
import java.lang.reflect.Modifier;
import java.util.Arrays;
import java.util.Set;
import java.util.TreeSet;

/** The public face: just the document's members, and nothing else that is not private. */
public final class FaceTest {
    private static final String BOTH = " throws IllegalArgumentException, IllegalStateException";
    private static final String STATE = " throws IllegalStateException";
    private static final Set<String> FACE = new TreeSet<>(Set.of(
        "int NONE = -1", "int FULL = -2", "int CUT = -3", "int POOR = -4",
        "new(int, int)",
        "int add(int, long)" + BOTH,
        "int move(int, int, long)" + BOTH,
        "void begin()" + STATE,
        "int end()" + STATE,
        "int drop()" + STATE,
        "int snapshot()" + STATE,
        "void crash(int)" + BOTH,
        "int recover()",
        "boolean isDown()",
        "long amount(int)" + BOTH,
        "int changes(int)" + BOTH,
        "int count(int)" + BOTH));

    public static void main(String[] args) throws IllegalAccessException {
        Class<?> type = ReplayJournal.class;
        Set<String> seen = new TreeSet<>();
        for (Field field : type.getDeclaredFields()) {
            if (!Modifier.isPrivate(field.getModifiers())) {
                seen.add(told(field));
            }
        }
        Arrays.stream(type.getDeclaredConstructors())
            .filter(c -> !Modifier.isPrivate(c.getModifiers()))
            .forEach(c -> seen.add("new" + parameters(c)));
        for (Method method : type.getDeclaredMethods()) {
            if (!Modifier.isPrivate(method.getModifiers())) {
                seen.add(method.getReturnType().getSimpleName() + " " + method.getName() + parameters(method));
            } else {
                Run.compare("a private method named " + method.getName() + ", as a public one",
                    String.valueOf(isPublicName(type, method.getName())), false);
            }
        }
        Run.compare("the face", seen.toString(), FACE);
        int modifiers = type.getModifiers();
        Run.compare("public final", String.valueOf(Modifier.isPublic(modifiers) && Modifier.isFinal(modifiers)), true);
        for (Class<?> inside : type.getDeclaredClasses()) {
            Run.compare(inside + " is static and not public", String.valueOf(
                Modifier.isStatic(inside.getModifiers()) && !Modifier.isPublic(inside.getModifiers())), true);
        }
        Run.finish();
    }

    private static String told(Field field) throws IllegalAccessException {
        int modifiers = field.getModifiers();
        boolean constant = Modifier.isPublic(modifiers) && Modifier.isStatic(modifiers) && Modifier.isFinal(modifiers);
        return constant ? field.getType() + " " + field.getName() + " = " + field.get(null) : "no constant: " + field;
    }

    private static String parameters(Executable member) {
        String access = Modifier.isPublic(member.getModifiers()) ? "" : " but not public";
        String[] types = Arrays.stream(member.getParameterTypes()).map(Class::getSimpleName).toArray(String[]::new);
        String[] thrown = Arrays.stream(member.getExceptionTypes()).map(Class::getSimpleName).toArray(String[]::new);
        return "(" + String.join(", ", types) + ")"
            + (thrown.length == 0 ? "" : " throws " + String.join(", ", thrown)) + access;
    }

    private static boolean isPublicName(Class<?> type, String name) {
        return Arrays.stream(type.getMethods()).anyMatch(m -> m.getDeclaringClass() == type && m.getName().equals(name));
    }
}
