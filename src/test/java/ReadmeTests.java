import java.lang.reflect.Method;
import java.nio.file.Files;
import java.nio.file.Path;
import java.util.ArrayList;
import java.util.Arrays;
import java.util.List;
import java.util.Set;
import java.util.TreeSet;
import java.util.regex.Matcher;
import java.util.regex.Pattern;
import java.util.stream.Stream;

/** What README.md says is so: its example's calls answer as it says there, and it names the tests that there are. */
public final class ReadmeTests {
    private static final Pattern CALL = Pattern.compile("c\\.(\\w+)\\(([-\\d, ]*)\\);\\s+// (-?\\d+|[A-Z]+): \\S.*");
    private static int wrong = 0;

    private static void fault(String text) {
        wrong++;
        System.out.println("README.md: " + text);
    }

    /** The lines of the one block of Java that there is. */
    private static List<String> example(String readme) {
        List<String> lines = new ArrayList<>();
        String[] parts = readme.split("```java\n", -1);
        if (parts.length != 2) {
            fault("has " + (parts.length - 1) + " examples, due is 1");
            return lines;
        }
        for (String line : parts[1].substring(0, parts[1].indexOf("```")).split("\n")) {
            if (!line.isBlank() && !line.startsWith("//")) {
                lines.add(line);
            }
        }
        return lines;
    }

    private static int answer(String text) throws Exception {
        return text.matches("-?\\d+") ? Integer.parseInt(text) : CarriedOrders.class.getField(text).getInt(null);
    }

    private static int call(CarriedOrders c, String name, String arguments) throws Exception {
        String[] texts = arguments.isBlank() ? new String[0] : arguments.split(", ");
        Class<?>[] types = new Class<?>[texts.length];
        Arrays.fill(types, int.class);
        Object[] numbers = new Object[texts.length];
        for (int i = 0; i < texts.length; i++) {
            numbers[i] = Integer.valueOf(texts[i]);
        }
        return (Integer) CarriedOrders.class.getMethod(name, types).invoke(c, numbers);
    }

    private static void exampleAnswersAsItSays(String readme) throws Exception {
        List<String> lines = example(readme);
        if (lines.isEmpty() || !lines.get(0).equals("CarriedOrders c = new CarriedOrders();")) {
            fault("its example does not begin with a new object");
            return;
        }
        CarriedOrders c = new CarriedOrders();
        Set<String> called = new TreeSet<>();
        for (String line : lines.subList(1, lines.size())) {
            Matcher m = CALL.matcher(line);
            if (!m.matches()) {
                fault("no call with its answer: " + line);
                continue;
            }
            called.add(m.group(1));
            int got = call(c, m.group(1), m.group(2));
            if (got != answer(m.group(3))) {
                fault("answered " + got + ": " + line);
            }
        }
        for (Method m : CarriedOrders.class.getDeclaredMethods()) {
            if (java.lang.reflect.Modifier.isPublic(m.getModifiers()) && !called.contains(m.getName())) {
                fault("its example has no " + m.getName());
            }
        }
    }

    private static void namesTheTests(String readme) throws Exception {
        Set<String> named = new TreeSet<>();
        Matcher m = Pattern.compile("- `(\\w+Tests)`:").matcher(readme);
        while (m.find()) {
            named.add(m.group(1));
        }
        Set<String> there = new TreeSet<>();
        try (Stream<Path> files = Files.list(Path.of("src/test/java"))) {
            files.forEach(f -> there.add(f.getFileName().toString().replace(".java", "")));
        }
        if (!named.equals(there)) {
            fault("names the tests " + named + ", there are " + there);
        }
    }

    private static void saysHowToRunThem(String readme) {
        if (!readme.contains("\n.ci/run\n") || !Files.isExecutable(Path.of(".ci/run"))) {
            fault("the tests can't be run as it says");
        }
    }

    public static void main(String[] args) throws Exception {
        String readme = Files.readString(Path.of("README.md"));
        exampleAnswersAsItSays(readme);
        namesTheTests(readme);
        saysHowToRunThem(readme);
        System.out.println(wrong == 0 ? "README.md is so" : wrong + " faults");
        if (wrong != 0) {
            System.exit(1);
        }
    }
}
