import java.io.IOException;
import java.lang.reflect.Method;
import java.lang.reflect.Modifier;
import java.nio.file.Files;
import java.nio.file.Path;
import java.util.List;
import java.util.regex.Matcher;
import java.util.regex.Pattern;
import java.util.stream.Collectors;
import java.util.stream.Stream;

/** README.md tells the truth: its calls answer what stands behind them, and it names every call and test. */
public final class Readme {
    private static final Pattern CALL = Pattern.compile("x\\.(\\w+)\\(([^)]*)\\);\\s*// (-?\\d+)(?:: .*)?");
    private static int wrong = 0;

    private static void due(boolean holds, String what) {
        if (!holds) {
            wrong++;
            System.out.println("not as due: " + what);
        }
    }

    public static void main(String[] args) throws Exception {
        String page = Files.readString(Path.of("README.md"));
        runExample(page);
        findCalls(page);
        findTests(page);
        System.out.println(wrong == 0 ? "README.md is as due" : wrong + " things are not as due");
        if (wrong != 0) {
            System.exit(1);
        }
    }

    private static void runExample(String page) throws Exception {
        int from = page.indexOf("```java\n");
        int to = page.indexOf("```\n", from + 1);
        due(from >= 0 && to > from, "an example");
        List<String> lines = page.substring(Math.max(from, 0), Math.max(to, 0)).lines()
            .filter(line -> line.startsWith("x.")).collect(Collectors.toList());
        due(lines.size() > 10, "an example of more than a few calls");
        RiverRoad x = new RiverRoad();
        for (String line : lines) {
            Matcher call = CALL.matcher(line);
            due(call.matches(), "a call with its answer behind it: " + line);
            if (call.matches()) {
                long got = answer(x, call.group(1), call.group(2));
                due(got == Long.parseLong(call.group(3)), line + " answered " + got);
            }
        }
    }

    private static long answer(RiverRoad x, String name, String arguments) throws Exception {
        Object[] numbers = Stream.of(arguments.split(",")).map(String::trim).filter(number -> !number.isEmpty())
            .map(Integer::valueOf).toArray();
        Class<?>[] types = Stream.of(numbers).map(number -> int.class).toArray(Class<?>[]::new);
        return ((Number) RiverRoad.class.getMethod(name, types).invoke(x, numbers)).longValue();
    }

    private static void findCalls(String page) {
        for (Method method : RiverRoad.class.getDeclaredMethods()) {
            boolean open = Modifier.isPublic(method.getModifiers());
            due(!open || page.contains("`" + method.getName() + "`"), "it names the call " + method.getName());
        }
    }

    private static void findTests(String page) throws IOException {
        try (Stream<Path> tests = Files.list(Path.of("src/test/java"))) {
            tests.map(test -> test.getFileName().toString().replace(".java", ""))
                .forEach(test -> due(page.contains("- `" + test + "`: "), "it names the test " + test));
        }
    }
}
