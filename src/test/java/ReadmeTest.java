import java.io.IOException;
import java.lang.reflect.Method;
import java.lang.reflect.Modifier;
import java.nio.file.Files;
import java.nio.file.Path;
import java.util.List;
import java.util.regex.Matcher;
import java.util.regex.Pattern;
import java.util.stream.Collectors;
import java.util.stream.Stream;

/** README.md says how to use the class and how to run its tests: its example answers what it says, nothing is left out. */
public final class ReadmeTest {
    private static final Kit KIT = new Kit();

    private static final Pattern CALL = Pattern.compile("x\\.(\\w+)\\(([^)]*)\\);\\s+// (-?\\d+|true|false)\\b");

    private static Method named(String name) {
        for (Method m : TarnishTurns.class.getDeclaredMethods()) {
            if (Modifier.isPublic(m.getModifiers()) && m.getName().equals(name)) {
                return m;
            }
        }
        throw new IllegalStateException("README.md calls what there is not: " + name);
    }

    private static Object argument(String word) {
        if (word.equals("true") || word.equals("false")) {
            return Boolean.valueOf(word);
        }
        return word.equals("TarnishTurns.NONE") ? TarnishTurns.NONE : Integer.decode(word);
    }

    private static void example(String page) throws ReflectiveOperationException {
        TarnishTurns x = new TarnishTurns();
        Matcher call = CALL.matcher(page);
        int calls = 0;
        while (call.find()) {
            Object[] arguments = Stream.of(call.group(2).split(", ")).map(ReadmeTest::argument).toArray();
            String got = String.valueOf(named(call.group(1)).invoke(x, arguments));
            KIT.due(call.group() + ", not " + got, got.equals(call.group(3)), true);
            calls++;
        }
        long lines = page.lines().filter(line -> line.startsWith("x.")).count();
        KIT.due("each line of the example is held", calls, lines);
        KIT.due("the example has calls", calls > 10, true);
    }

    private static List<String> tests() throws IOException {
        try (Stream<Path> files = Files.list(Path.of("src/test/java"))) {
            return files.map(file -> file.getFileName().toString().replace(".java", "")).filter(name -> name.endsWith("Test"))
                    .sorted().collect(Collectors.toList());
        }
    }

    public static void main(String[] args) throws IOException, ReflectiveOperationException {
        String page = Files.readString(Path.of("README.md"));
        example(page);
        for (Method m : TarnishTurns.class.getDeclaredMethods()) {
            if (Modifier.isPublic(m.getModifiers())) {
                KIT.due("README.md names " + m.getName(), page.contains("`" + m.getName() + "`"), true);
            }
        }
        for (String test : tests()) {
            KIT.due("README.md says what " + test + " does", page.contains("`" + test + "`"), true);
        }
        KIT.due("README.md says how to run the tests", page.contains("`.ci/run`"), true);
        KIT.finish();
    }
}
