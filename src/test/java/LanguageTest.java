import java.io.IOException;
import java.lang.reflect.Field;
import java.lang.reflect.Method;
import java.lang.reflect.Modifier;
import java.nio.file.Files;
import java.nio.file.Path;
import java.util.ArrayList;
import java.util.List;
import java.util.Random;
import java.util.Set;
import java.util.TreeSet;
import java.util.regex.Matcher;
import java.util.regex.Pattern;

/**
 * The rules of LANGUAGE.md as far as they can be seen without reading the code as a reader does. Each method answers
 * what breaks its rule, so that an empty list is due.
 */
public final class LanguageTest {
    private static final Path SOURCE = Path.of("src/main/java/SplitFabric.java");
    private static final Set<String> IMPORTS = Set.of("java.util.ArrayList", "java.util.List", "java.util.Arrays",
            "java.util.Iterator", "java.util.NoSuchElementException");
    private static final Set<Class<?>> CONSTANTS = Set.of(int.class, long.class, boolean.class, char.class,
            String.class, int[].class, long[].class, char[].class, byte[].class);
    private static final String THROWN = "throw new (IllegalState|IllegalArgument|IndexOutOfBounds|Arithmetic"
            + "|UnsupportedOperation|NoSuchElement|Runtime)Exception\\((\"[^\"]*\")?\\);";
    private static final String REFUSED = "->|::|\\b(finally|synchronized|assert|volatile|native|transient|package"
            + "|hashCode|toString|getMessage|getClass|printStackTrace|Random|Thread|Object|Override)\\b|\\w+Exact\\b"
            + "|\\bSystem\\.(?!arraycopy\\b)|\\bstatic\\s*\\{|\\[\\]\\[\\]\\[\\]";

    public static void main(String[] args) throws IOException {
        String code = withoutComments(Files.readString(SOURCE));
        none("rule 1: what is seen of the classes inside", seenOfClassesInside());
        none("rule 1: private methods with the name of a public one", namesUsedTwice());
        none("rule 2 and 4: imports", otherImports(code));
        none("rule 4, 6 and 13: words that are refused", all(REFUSED, code));
        none("rule 5: static fields", otherStaticFields());
        none("rule 6: throws of another form", all("\\bthrow\\b[^;]*;", code.replaceAll(THROWN, "")));
        none("rule 6: throws in a constructor", throwsInConstructor(code));
        none("rule 7: what is thrown by itself", thrownByItself());
        none("rule 11: more than seven parameters", longParameterLists());
        none("rule 11: more than twenty fields", wideClasses());
        none("rule 11: more than sixty lines", longMethods(code));
        Check.due("rule 11: at most twelve classes", true, () -> classes().size() <= 12);
        Check.end();
    }

    private static void none(String what, List<String> broken) {
        Check.due(what, List.of(), () -> broken);
    }

    private static String withoutComments(String text) {
        return text.replaceAll("(?s)/\\*.*?\\*/", "").replaceAll("//[^\n]*", "");
    }

    private static List<String> all(String pattern, String code) {
        List<String> found = new ArrayList<>();
        Matcher matcher = Pattern.compile(pattern).matcher(code);
        while (matcher.find()) {
            found.add(matcher.group());
        }
        return found;
    }

    private static List<Class<?>> classes() {
        List<Class<?>> found = new ArrayList<>(List.of(SplitFabric.class));
        for (int i = 0; i < found.size(); i++) {
            found.addAll(List.of(found.get(i).getDeclaredClasses()));
        }
        return found;
    }

    private static List<String> seenOfClassesInside() {
        List<String> broken = new ArrayList<>();
        for (Class<?> inside : SplitFabric.class.getDeclaredClasses()) {
            int modifiers = inside.getModifiers();
            if (!Modifier.isStatic(modifiers) || Modifier.isPublic(modifiers) || Modifier.isProtected(modifiers)) {
                broken.add(inside.getSimpleName());
            }
        }
        return broken;
    }

    private static List<String> namesUsedTwice() {
        Set<String> names = new TreeSet<>();
        List<String> broken = new ArrayList<>();
        for (Method method : SplitFabric.class.getMethods()) {
            names.add(method.getName());
        }
        for (Class<?> one : classes()) {
            for (Method method : one.getDeclaredMethods()) {
                boolean ofTheFace = one == SplitFabric.class && Modifier.isPublic(method.getModifiers());
                if (!ofTheFace && names.contains(method.getName())) {
                    broken.add(one.getSimpleName() + "." + method.getName());
                }
            }
        }
        return broken;
    }

    private static List<String> otherImports(String code) {
        List<String> broken = all("(?m)^import [^;]*;", code);
        broken.removeIf(line -> IMPORTS.contains(line.replaceAll("^import |;$", "")));
        return broken;
    }

    private static List<String> otherStaticFields() {
        List<String> broken = new ArrayList<>();
        for (Class<?> one : classes()) {
            for (Field field : one.getDeclaredFields()) {
                boolean fine = Modifier.isFinal(field.getModifiers()) && CONSTANTS.contains(field.getType());
                if (Modifier.isStatic(field.getModifiers()) && !fine) {
                    broken.add(one.getSimpleName() + "." + field.getName());
                }
            }
        }
        return broken;
    }

    private static List<String> throwsInConstructor(String code) {
        List<String> broken = new ArrayList<>();
        for (Class<?> one : classes()) {
            String header = "(?m)^( *)(public )?" + one.getSimpleName() + "\\(.*\\{$[^\0]*?^\\1\\}$";
            for (String body : all(header, code)) {
                if (!all("\\bthrow\\b|\\bcheck\\w+\\(", body).isEmpty()) {
                    broken.add(one.getSimpleName());
                }
            }
        }
        return broken;
    }

    /** Far beyond the 512th call too, where answers are free, but what is thrown is not. */
    private static List<String> thrownByItself() {
        int[] arguments = {Integer.MIN_VALUE, -1, 0, 1, 2, 3, 4, 5, 15, 16, 47, 48, 61, 63, 64, 511, Integer.MAX_VALUE};
        Set<String> ofTheDocument = Set.of("IndexOutOfBoundsException", "IllegalArgumentException",
                "IllegalStateException");
        Random random = new Random(20);
        SplitFabric x = new SplitFabric();
        List<String> broken = new ArrayList<>();
        for (int call = 0; call < 200000; call++) {
            int[] a = new int[5];
            for (int i = 0; i < a.length; i++) {
                a[i] = random.nextInt(3) == 0 ? arguments[random.nextInt(arguments.length)] : random.nextInt(4);
            }
            int which = random.nextInt(24);
            String answer = Check.answerOf(() -> callOneOf(x, which, a));
            if (answer.startsWith("throws.") && !ofTheDocument.contains(answer.substring("throws.".length()))) {
                broken.add(answer);
            }
        }
        return broken;
    }

    private static Object callOneOf(SplitFabric x, int which, int[] a) {
        switch (which) {
            case 0: x.data(a[0], a[1], a[2]); return "";
            case 1: x.ready(a[0], a[1] != 0); return "";
            case 2: return x.cycles(a[0]);
            case 3: return x.time() + x.served();
            case 4: return x.state(a[0], a[1]);
            case 5: return x.word(a[0], a[1], a[2]);
            case 6: x.base(a[0], a[1]); return "";
            case 7: return x.waits(a[0]);
            case 8: return a[1] == 0 ? x.reset(a[0]) : x.memory(a[0]);
            case 9: return x.credits(a[0]);
            case 10: return x.holder(a[0]);
            case 11: return x.service(a[0], a[1]);
            case 12: case 13: case 14: case 15: return x.take(a[0], a[1]);
            case 16: case 17: case 18: return x.cycle();
            default: x.issue(a[0], a[1], a[2], a[3], a[4]); return "";
        }
    }

    private static List<String> longParameterLists() {
        List<String> broken = new ArrayList<>();
        for (Class<?> one : classes()) {
            for (Method method : one.getDeclaredMethods()) {
                if (method.getParameterCount() > 7) {
                    broken.add(one.getSimpleName() + "." + method.getName());
                }
            }
        }
        return broken;
    }

    private static List<String> wideClasses() {
        List<String> broken = new ArrayList<>();
        for (Class<?> one : classes()) {
            int fields = 0;
            for (Field field : one.getDeclaredFields()) {
                fields += Modifier.isStatic(field.getModifiers()) ? 0 : 1;
            }
            if (fields > 20) {
                broken.add(one.getSimpleName());
            }
        }
        return broken;
    }

    /** The lines of a method go from its header to the brace that stands as far in as the header. */
    private static List<String> longMethods(String code) {
        List<String> broken = new ArrayList<>();
        String whole = "(?m)^( {4}| {8})(?!.*\\bclass\\b)\\w[^;={}]*\\) ?[^;={}]*\\{\n[^\0]*?^\\1\\}$";
        for (String method : all(whole, code)) {
            if (method.split("\n").length > 60) {
                broken.add(method.split("\n")[0].trim());
            }
        }
        return broken;
    }
}
