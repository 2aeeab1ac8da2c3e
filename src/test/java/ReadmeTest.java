import java.io.IOException;
import java.lang.reflect.Field;
import java.lang.reflect.Method;
import java.lang.reflect.Modifier;
import java.nio.file.DirectoryStream;
import java.nio.file.Files;
import java.nio.file.Path;
import java.util.Arrays;
import java.util.List;
import java.util.regex.Matcher;
import java.util.regex.Pattern;

/** README.md tells of every call, constant and test, and its example answers what stands beside it. */
public final class ReadmeTest {
    private static final Pattern MADE = Pattern.compile("WindingRaster page = new WindingRaster\\((.*)\\);");
    private static final Pattern CALL = Pattern.compile("page\\.(\\w+)\\((.*)\\);\\s+// (-?\\d+|[A-Z]+)(:.*)?");

    private static int wrong = 0;

    private static void due(boolean right, String what) {
        if (!right) {
            wrong++;
            System.out.println("README.md: " + what);
        }
    }

    /** Arguments as they are written there: whole numbers, and products of them. */
    private static Object[] numbers(String text) {
        return Arrays.stream(text.split(",")).filter(part -> !part.isBlank()).map(ReadmeTest::product).toArray();
    }

    private static Integer product(String text) {
        return Arrays.stream(text.split("\\*")).mapToInt(part -> Integer.parseInt(part.trim())).reduce(1, (a, b) -> a * b);
    }

    private static Method methodOf(String name, int parameters) throws NoSuchMethodException {
        Class<?>[] types = new Class<?>[parameters];
        Arrays.fill(types, int.class);
        return WindingRaster.class.getMethod(name, types);
    }

    private static int answerOf(String text) throws ReflectiveOperationException {
        boolean number = text.matches("-?\\d+");
        return number ? Integer.parseInt(text) : WindingRaster.class.getField(text).getInt(null);
    }

    private static void example(List<String> lines) throws ReflectiveOperationException {
        int from = lines.indexOf("```java");
        int end = from < 0 ? -1 : from + lines.subList(from, lines.size()).indexOf("```");
        due(end > from + 1, "there is no example");
        WindingRaster page = null;
        for (String line : end > from ? lines.subList(from + 1, end) : List.<String>of()) {
            Matcher made = MADE.matcher(line);
            Matcher call = CALL.matcher(line);
            if (made.matches()) {
                Object[] sizes = numbers(made.group(1));
                page = new WindingRaster((Integer) sizes[0], (Integer) sizes[1]);
            } else if (page != null && call.matches()) {
                Object[] arguments = numbers(call.group(2));
                Object got = methodOf(call.group(1), arguments.length).invoke(page, arguments);
                due(got.equals(answerOf(call.group(3))), "'" + line + "' answered " + got);
            } else {
                due(false, "the example's line '" + line + "' can't be read");
            }
        }
    }

    private static void calls(List<String> lines) {
        for (Method method : WindingRaster.class.getDeclaredMethods()) {
            if (Modifier.isPublic(method.getModifiers())) {
                String row = "\\| `" + method.getName() + "\\((\\w+(, \\w+){" + Math.max(0, method.getParameterCount() - 1)
                    + "})" + (method.getParameterCount() == 0 ? "{0}" : "") + "\\)` \\| .+ \\| .+ \\|";
                due(lines.stream().filter(line -> line.matches(row)).count() == 1, "not one row of the table tells of " + method);
            }
        }
        due(lines.stream().anyMatch(line -> line.contains("`new WindingRaster(columns, rows)`")), "not told how an object is made");
    }

    private static void constants(List<String> lines) throws IllegalAccessException {
        for (Field field : WindingRaster.class.getDeclaredFields()) {
            if (Modifier.isPublic(field.getModifiers())) {
                String item = "- `" + field.getName() + "` (" + field.getInt(null) + "): ";
                due(lines.stream().anyMatch(line -> line.startsWith(item)), "not told what " + field.getName() + " stands for");
            }
        }
    }

    private static void tests(List<String> lines) throws IOException {
        due(lines.contains("    .ci/run"), "not told how the tests are run");
        try (DirectoryStream<Path> files = Files.newDirectoryStream(Path.of("src/test/java"), "*.java")) {
            for (Path file : files) {
                due(lines.stream().anyMatch(line -> line.startsWith("- `" + file + "`: ")), "not told of " + file);
            }
        }
    }

    public static void main(String[] args) throws IOException, ReflectiveOperationException {
        List<String> lines = Files.readAllLines(Path.of("README.md"));
        example(lines);
        calls(lines);
        constants(lines);
        tests(lines);
        System.out.println(wrong == 0 ? "README.md is as due" : wrong + " faults in README.md");
        if (wrong != 0) {
            System.exit(1);
        }
    }
}
