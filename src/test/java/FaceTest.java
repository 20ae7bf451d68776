import java.lang.reflect.Constructor;
import java.lang.reflect.Field;
import java.lang.reflect.InvocationTargetException;
import java.lang.reflect.Method;
import java.lang.reflect.Modifier;
import java.nio.file.Files;
import java.nio.file.Path;
import java.util.ArrayList;
import java.util.Arrays;
import java.util.HashSet;
import java.util.List;
import java.util.Random;
import java.util.Set;
import java.util.TreeSet;
import java.util.regex.Matcher;
import java.util.regex.Pattern;

/** The public face, the exceptions that reach a caller, and rules of LANGUAGE.md that can be seen from outside. */
public final class FaceTest {
    private static final Path SOURCE = Path.of("src/main/java/QuotaOverlay.java");
    private static final String A = " IllegalArgumentException";
    private static final String S = " IllegalStateException";
    private static final String U = " UnsupportedOperationException";
    private static final String[] FACE = {
        "int setPuzzles 3" + A, "int setQuotas 2" + A, "int tick 1" + A, "int solve 1" + A, "int zeros 3" + A,
        "int join 4" + A + S + U, "int admit 3" + A + S + U, "int leave 1" + A + S, "int swarm 5" + A + S,
        "int lookup 2" + A + S, "int probe 3" + A + S, "int reach 1" + A + S, "int member 2" + A,
        "int memberAt 1" + A, "int entry 4" + A + S, "int share 2" + A + S, "int overlay 1" + A, "int count 1" + A,
        "int type 1" + A + S, "int clearScript 0", "int run 0", "int undo 0" + S, "long digest 0",
    };
    private static final int[] ODD = {
        Integer.MIN_VALUE, -100000, -257, -256, -11, -10, -2, -1, 0, 1, 2, 3, 4, 5, 6, 7, 8, 9, 10, 16, 17, 31, 32,
        33, 59, 100, 101, 106, 116, 127, 128, 255, 256, 257, 500, 501, 1000, 1001, 99999, 100000, 1 << 30,
        Integer.MAX_VALUE - 1, Integer.MAX_VALUE,
    };
    private static int wrong = 0;

    private static void wrong(String text) {
        wrong++;
        System.out.println(text);
    }

    private static String form(Method method) {
        StringBuilder text = new StringBuilder();
        text.append(method.getReturnType()).append(' ').append(method.getName()).append(' ');
        text.append(method.getParameterCount());
        for (Class<?> kind : method.getExceptionTypes()) {
            text.append(' ').append(kind.getSimpleName());
        }
        for (Class<?> kind : method.getParameterTypes()) {
            if (kind != int.class) {
                text.append(" takes ").append(kind);
            }
        }
        return text.toString();
    }

    private static void face() {
        Class<?> type = QuotaOverlay.class;
        if (!Modifier.isPublic(type.getModifiers()) || !Modifier.isFinal(type.getModifiers())) {
            wrong("the class is not public and final");
        }
        Set<String> due = new TreeSet<>(Arrays.asList(FACE));
        Set<String> there = new TreeSet<>();
        Set<String> publicNames = new HashSet<>();
        for (Method method : type.getDeclaredMethods()) {
            if (!Modifier.isPrivate(method.getModifiers())) {
                there.add((Modifier.isPublic(method.getModifiers()) ? "" : "not public: ") + form(method));
                publicNames.add(method.getName());
            }
        }
        if (!due.equals(there)) {
            wrong("the methods are " + there + ", due are " + due);
        }
        for (Field field : type.getDeclaredFields()) {
            boolean hidden = Modifier.isPrivate(field.getModifiers());
            if (hidden == field.getName().equals("NONE")) {
                wrong("the field " + field);
            }
        }
        Constructor<?>[] made = type.getDeclaredConstructors();
        if (made.length != 1 || !Modifier.isPublic(made[0].getModifiers()) || made[0].getParameterCount() != 0) {
            wrong("the constructors are " + Arrays.toString(made));
        }
        inside(type, publicNames);
    }

    private static void inside(Class<?> type, Set<String> publicNames) {
        List<Class<?>> all = new ArrayList<>(Arrays.asList(type.getDeclaredClasses()));
        if (all.size() > 11) {
            wrong("there are " + (all.size() + 1) + " classes");
        }
        for (Class<?> nested : all) {
            int flags = nested.getModifiers();
            if (!Modifier.isStatic(flags) || Modifier.isPublic(flags) || Modifier.isProtected(flags)) {
                wrong(nested + " is not private or package-visible and static");
            }
        }
        all.add(type);
        for (Class<?> each : all) {
            int fields = 0;
            for (Field field : each.getDeclaredFields()) {
                if (!Modifier.isStatic(field.getModifiers())) {
                    fields++;
                } else if (!Modifier.isFinal(field.getModifiers())) {
                    wrong("a static field that is not final: " + field);
                }
            }
            if (fields > 20) {
                wrong(each + " has " + fields + " fields");
            }
            for (Method method : each.getDeclaredMethods()) {
                if (method.getParameterCount() > 7) {
                    wrong("too many parameters: " + method);
                }
                boolean ownName = each != type || Modifier.isPrivate(method.getModifiers());
                if (ownName && publicNames.contains(method.getName())) {
                    wrong("a hidden method with a public name: " + method);
                }
            }
        }
    }

    /** Whatever the arguments and the state are, a call answers or throws just what it declares. */
    private static void oddCalls(long seed) throws IllegalAccessException {
        Random random = new Random(seed);
        QuotaOverlay x = new QuotaOverlay();
        List<Method> methods = new ArrayList<>();
        for (Method method : QuotaOverlay.class.getDeclaredMethods()) {
            if (Modifier.isPublic(method.getModifiers())) {
                methods.add(method);
            }
        }
        methods.sort((a, b) -> a.getName().compareTo(b.getName()));
        String text = "join 5 1 200;look 5 9;leave 200;tick 3;";
        for (int i = 0; i < 3000; i++) {
            Method method = methods.get(random.nextInt(methods.size()));
            Object[] arguments = new Object[method.getParameterCount()];
            for (int k = 0; k < arguments.length; k++) {
                boolean odd = random.nextInt(3 * arguments.length) == 0;
                arguments[k] = odd ? ODD[random.nextInt(ODD.length)] : random.nextInt(random.nextBoolean() ? 256 : 8);
            }
            if (method.getName().equals("type") && random.nextInt(20) != 0) {
                arguments[0] = (int) text.charAt(i % text.length());
            }
            call(x, method, arguments);
        }
    }

    private static void call(QuotaOverlay x, Method method, Object[] arguments) throws IllegalAccessException {
        try {
            method.invoke(x, arguments);
        } catch (InvocationTargetException e) {
            Class<?> thrown = e.getCause().getClass();
            if (!Arrays.asList(method.getExceptionTypes()).contains(thrown)) {
                wrong(method.getName() + Arrays.toString(arguments) + " threw " + e.getCause());
            }
        }
    }

    private static void language() throws java.io.IOException {
        List<String> lines = Files.readAllLines(SOURCE);
        String[] forbidden = {
            "->", "::", "\\bfinally\\b", "\\bsynchronized\\b", "\\bassert\\b", "\\bpackage\\b", "\\bdouble\\b",
            "\\bfloat\\b", "\\bcatch\\b", "\\btry\\b", "Exact\\(", "\\bvar\\b", "hashCode", "toString", "\\bsuper\\b",
        };
        for (int i = 0; i < lines.size(); i++) {
            String line = lines.get(i).replaceAll("//.*|/?\\*.*", "");
            for (String pattern : forbidden) {
                if (Pattern.compile(pattern).matcher(line).find()) {
                    wrong("line " + (i + 1) + " has " + pattern);
                }
            }
            if (line.startsWith("import ") && !line.equals("import java.util.Arrays;")) {
                wrong("line " + (i + 1) + ": " + line);
            }
            Matcher thrown = Pattern.compile("\\bthrow\\b(?! new (IllegalArgument|IllegalState|UnsupportedOperation)"
                    + "Exception\\((\"[^\"]*\")?\\);)").matcher(line);
            if (thrown.find()) {
                wrong("line " + (i + 1) + " throws in another form");
            }
        }
        methodLengths(lines);
    }

    private static void methodLengths(List<String> lines) {
        for (String indent : new String[] {"    ", "        "}) {
            int start = -1;
            for (int i = 0; i < lines.size(); i++) {
                String line = lines.get(i);
                if (line.matches(indent + "\\S.*\\(.*") && !line.endsWith(";")) {
                    start = i;
                } else if (line.equals(indent + "}") && start >= 0) {
                    if (i - start + 1 > 60) {
                        wrong("the method in line " + (start + 1) + " has " + (i - start + 1) + " lines");
                    }
                    start = -1;
                }
            }
        }
    }

    public static void main(String[] args) throws Exception {
        face();
        for (long seed = 0; seed < 40; seed++) {
            oddCalls(seed);
        }
        language();
        System.out.println("the face, odd calls and the language: " + wrong + " wrong");
        if (wrong != 0) {
            System.exit(1);
        }
    }
}
