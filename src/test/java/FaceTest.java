import java.lang.reflect.Constructor;
import java.lang.reflect.Field;
import java.lang.reflect.Method;
import java.lang.reflect.Modifier;
import java.util.ArrayList;
import java.util.Arrays;
import java.util.Collections;
import java.util.List;

/** The class has the face that the document shows, and nothing beside it that is not private. */
public final class FaceTest {
    private static final String INDEX = "IndexOutOfBoundsException";
    private static final String ARGUMENT = "IllegalArgumentException";
    private static final String STATE = "IllegalStateException";

    public static void main(String[] args) {
        Check.due("the class's modifiers", "public final", () -> Modifier.toString(SplitFabric.class.getModifiers()));
        Check.due("constants", sorted(
                "int READ 0", "int WRITE 1", "int LOCK 2", "int UNLOCK 3", "int BARRIER 4",
                "int FREE 0", "int WAITING 1", "int GRANTED 2", "int DONE 3", "int FAILED 4", "int NONE -1"),
                FaceTest::constants);
        Check.due("constructors", "[public ()]", FaceTest::constructors);
        Check.due("methods", sorted(
                "void data(int, int, int) " + INDEX,
                "void issue(int, int, int, int, int) " + INDEX + " " + ARGUMENT + " " + STATE,
                "void ready(int, boolean) " + INDEX,
                "int cycle()",
                "int cycles(int) " + ARGUMENT,
                "int time()",
                "int state(int, int) " + INDEX,
                "int word(int, int, int) " + INDEX + " " + STATE,
                "boolean take(int, int) " + INDEX + " " + STATE,
                "void base(int, int) " + INDEX + " " + ARGUMENT,
                "int waits(int) " + INDEX,
                "int reset(int) " + INDEX,
                "int credits(int) " + INDEX,
                "int holder(int) " + INDEX,
                "int memory(int) " + INDEX,
                "int served()",
                "int service(int, int) " + INDEX + " " + ARGUMENT),
                FaceTest::methods);
        Check.end();
    }

    private static List<String> sorted(String... texts) {
        List<String> all = new ArrayList<>(Arrays.asList(texts));
        Collections.sort(all);
        return all;
    }

    private static List<String> constants() {
        List<String> all = new ArrayList<>();
        for (Field field : SplitFabric.class.getDeclaredFields()) {
            if (!Modifier.isPrivate(field.getModifiers())) {
                all.add(field.getType() + " " + field.getName() + " " + valueOf(field));
            }
        }
        Collections.sort(all);
        return all;
    }

    private static String valueOf(Field field) {
        if (!Modifier.toString(field.getModifiers()).equals("public static final")) {
            return "is no public constant";
        }
        try {
            return String.valueOf(field.get(null));
        } catch (IllegalAccessException e) {
            return "is out of reach";
        }
    }

    private static List<String> constructors() {
        List<String> all = new ArrayList<>();
        for (Constructor<?> made : SplitFabric.class.getDeclaredConstructors()) {
            all.add(Modifier.toString(made.getModifiers()) + " " + namesOf(made.getParameterTypes(), ", ", "(", ")"));
        }
        return all;
    }

    private static List<String> methods() {
        List<String> all = new ArrayList<>();
        for (Method method : SplitFabric.class.getDeclaredMethods()) {
            if (!Modifier.isPrivate(method.getModifiers())) {
                String modifiers = Modifier.toString(method.getModifiers()).replaceFirst("^public$", "");
                all.add(modifiers + method.getReturnType() + " " + method.getName()
                        + namesOf(method.getParameterTypes(), ", ", "(", ")")
                        + namesOf(method.getExceptionTypes(), " ", " ", "").replaceFirst(" $", ""));
            }
        }
        Collections.sort(all);
        return all;
    }

    private static String namesOf(Class<?>[] types, String between, String open, String close) {
        List<String> names = new ArrayList<>();
        for (Class<?> type : types) {
            names.add(type.getSimpleName());
        }
        return open + String.join(between, names) + close;
    }
}
