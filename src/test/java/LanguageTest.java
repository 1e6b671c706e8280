import java.io.IOException;
import java.lang.reflect.Constructor;
import java.lang.reflect.Executable;
import java.lang.reflect.Field;
import java.lang.reflect.Method;
import java.lang.reflect.Modifier;
import java.nio.file.Files;
import java.nio.file.Path;
import java.util.ArrayList;
import java.util.Arrays;
import java.util.List;
import java.util.Set;
import java.util.TreeSet;
import java.util.regex.Matcher;
import java.util.regex.Pattern;
import java.util.stream.Collectors;

/** The rules of LANGUAGE.md, as far as they can be seen from the text or from the classes. */
public final class LanguageTest {
    private static final Harness H = new Harness("LanguageTest");
    private static final Path SOURCE = Path.of("src/main/java/TreeJoiner.java");
    private static final Set<String> THROWN = Set.of("IllegalStateException",
            "IllegalArgumentException", "IndexOutOfBoundsException", "ArithmeticException",
            "UnsupportedOperationException", "NoSuchElementException", "RuntimeException");
    private static final Set<String> IMPORTED = Set.of("java.util.Arrays", "java.util.ArrayList",
            "java.util.List", "java.util.Iterator");
    private static final Set<Class<?>> CONSTANTS = Set.of(int.class, long.class, boolean.class,
            char.class, String.class, int[].class, long[].class, char[].class, byte[].class);

    public static void main(String[] args) throws IOException {
        String text = bare(Files.readString(SOURCE));
        wordsOfTheText(text);
        lengthOfMethods(text);
        List<Class<?>> classes = new ArrayList<>(List.of(TreeJoiner.class));
        classes.addAll(Arrays.asList(TreeJoiner.class.getDeclaredClasses()));
        H.same("rule 11: classes", 1, classes.size() <= 12 ? 1 : 0);
        for (Class<?> one : classes) {
            fields(one);
            methods(one);
        }
        H.done();
    }

    /** The text without comments, and with empty Strings and characters. */
    private static String bare(String text) {
        return text.replaceAll("(?s)/\\*.*?\\*/", "").replaceAll("//[^\n]*", "")
                .replaceAll("\"[^\"\n]*\"", "\"\"").replaceAll("'[^'\n]*'", "' '");
    }

    private static Set<String> found(String text, String pattern) {
        Matcher matcher = Pattern.compile(pattern).matcher(text);
        Set<String> all = new TreeSet<>();
        while (matcher.find()) {
            all.add(matcher.group(1));
        }
        return all;
    }

    private static void wordsOfTheText(String text) {
        H.same("no package", 0, found(text, "(\\bpackage\\b)").size());
        H.same("rule 4: imports", 1,
                IMPORTED.containsAll(found(text, "import (?:static )?([^;]*);")) ? 1 : 0);
        H.same("rules 2, 6: words that are not of it", "[]", found(text, "\\b(finally|synchronized"
                + "|assert|volatile|transient|native|System\\.(?!arraycopy)\\w*)\\b").toString());
        H.same("rule 2: lambdas and method references", "[]", found(text, "(->|::)").toString());
        H.same("rule 6: exceptions", 1,
                THROWN.containsAll(found(text, "\\bthrow new (\\w+)")) ? 1 : 0);
        H.same("rule 6: they are thrown new", "[new]", found(text, "\\bthrow (\\w+)").toString());
        H.same("rule 5: static blocks", "[]", found(text, "(static\\s*\\{)").toString());
        H.same("rule 10: texts are not joined by +", "[]",
                found(text, "(\"\"\\s*\\+|\\+\\s*\"\")").toString());
        H.same("only bytes of ASCII", "[]", found(text, "([^\\x00-\\x7f])").toString());
    }

    // A method's text goes from the line that opens it to the first line that closes so far left.
    private static void lengthOfMethods(String text) {
        String[] lines = text.split("\n");
        int methods = 0;
        for (int i = 0; i < lines.length; i++) {
            Matcher head = Pattern.compile("^( {4}| {8})[\\w<].*[)\\w] \\{$").matcher(lines[i]);
            if (!head.matches() || lines[i].contains(" class ")) {
                continue;
            }
            int end = i;
            while (!lines[end].equals(head.group(1) + "}")) {
                end++;
            }
            methods++;
            H.same("rule 11: length of " + lines[i].trim(), 1, end - i < 60 ? 1 : 0);
            i = end;
        }
        H.same("methods are found", 1, methods > 60 ? 1 : 0);
    }

    private static void fields(Class<?> of) {
        int own = 0;
        for (Field field : of.getDeclaredFields()) {
            if (Modifier.isStatic(field.getModifiers())) {
                H.same("rule 5: " + field + " is final", 1,
                        Modifier.isFinal(field.getModifiers()) ? 1 : 0);
                H.same("rule 5: " + field, 1, CONSTANTS.contains(field.getType()) ? 1 : 0);
            } else {
                own++;
                type(field.getType(), field.toString());
            }
        }
        H.same("rule 11: fields of " + of, 1, own <= 20 ? 1 : 0);
    }

    private static void methods(Class<?> of) {
        Set<String> face = Arrays.stream(TreeJoiner.class.getMethods())
                .filter(method -> method.getDeclaringClass() == TreeJoiner.class)
                .map(Method::getName).collect(Collectors.toSet());
        for (Method method : of.getDeclaredMethods()) {
            boolean shown = of == TreeJoiner.class && Modifier.isPublic(method.getModifiers());
            H.same("rule 1: name of " + method, shown ? 1 : 0,
                    face.contains(method.getName()) ? 1 : 0);
            parameters(method);
            type(method.getReturnType(), method.toString());
        }
        for (Constructor<?> constructor : of.getDeclaredConstructors()) {
            parameters(constructor);
        }
    }

    private static void parameters(Executable of) {
        H.same("rule 11: parameters of " + of, 1, of.getParameterCount() <= 7 ? 1 : 0);
        for (Class<?> each : of.getParameterTypes()) {
            type(each, of.toString());
        }
    }

    private static void type(Class<?> of, String where) {
        Class<?> inner = of.isArray() ? of.getComponentType() : of;
        boolean own = inner.getNestHost() == TreeJoiner.class;
        H.same("rule 3: type in " + where, 1,
                inner.isPrimitive() || own || inner == String.class ? 1 : 0);
    }
}
