import java.io.IOException;
import java.lang.reflect.Method;
import java.nio.file.Files;
import java.nio.file.Path;
import java.util.Arrays;
import java.util.TreeSet;
import java.util.regex.Matcher;
import java.util.regex.Pattern;

/** The README: its example answers what it says, and its table has every test. */
public final class ReadmeTest {
    private static final Harness H = new Harness("ReadmeTest");
    private static final Pattern CALL = Pattern.compile("x\\.(\\w+)\\((.*)\\);\\s*(?://(.*))?");

    public static void main(String[] args) throws IOException, ReflectiveOperationException {
        String readme = Files.readString(Path.of("README.md"));
        int begin = readme.indexOf("```java\n") + 8;
        example(readme.substring(begin, readme.indexOf("```", begin)));
        table(readme);
        H.done();
    }

    private static void example(String code) throws ReflectiveOperationException {
        TreeJoiner x = new TreeJoiner();
        int compared = 0;
        for (String line : code.split("\n")) {
            Matcher call = CALL.matcher(line.trim());
            if (!call.matches()) {
                H.same("the line " + line, 1,
                        line.isBlank() || line.equals("TreeJoiner x = new TreeJoiner();") ? 1 : 0);
                continue;
            }
            Object answer = make(x, call.group(1), call.group(2));
            String comment = call.group(3) == null ? "" : call.group(3).trim();
            if (comment.startsWith("\"")) {
                H.same("text of " + line, comment, text(call.group(2), comment.length()));
            } else if (!comment.isEmpty()) {
                H.same(line, comment.replaceFirst("\\D.*", ""), answer.toString());
                compared++;
            }
        }
        H.same("answers are compared", 1, compared > 6 ? 1 : 0);
    }

    private static Object make(TreeJoiner x, String name, String numbers)
            throws ReflectiveOperationException {
        Object[] given = Arrays.stream(numbers.split(",")).map(String::trim)
                .filter(number -> !number.isEmpty()).map(Integer::decode).toArray();
        Class<?>[] types = new Class<?>[given.length];
        Arrays.fill(types, int.class);
        Method method = TreeJoiner.class.getMethod(name, types);
        return method.invoke(x, given);
    }

    /** The first bytes that are fed, in quotes, so that all is as long as it should be. */
    private static String text(String numbers, int length) {
        StringBuilder out = new StringBuilder("\"");
        for (String number : numbers.split(",")) {
            int value = Integer.decode(number.trim());
            for (int shift = 24; shift >= 0; shift -= 8) {
                out.append((char) (value >>> shift & 255));
            }
        }
        return out.substring(0, length - 1) + "\"";
    }

    private static void table(String readme) throws IOException {
        TreeSet<String> there = new TreeSet<>();
        try (var files = Files.list(Path.of("src/test/java"))) {
            files.map(file -> file.getFileName().toString()).filter(name -> name.endsWith("Test.java"))
                    .forEach(name -> there.add(name.replace(".java", "")));
        }
        TreeSet<String> told = new TreeSet<>();
        Matcher row = Pattern.compile("(?m)^\\| (\\w+Test) \\|").matcher(readme);
        while (row.find()) {
            told.add(row.group(1));
        }
        H.same("tests of the table", there.toString(), told.toString());
    }
}
