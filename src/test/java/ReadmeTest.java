import java.io.IOException;
import java.lang.reflect.Method;
import java.lang.reflect.Modifier;
import java.net.URL;
import java.net.URLClassLoader;
import java.nio.file.Files;
import java.nio.file.Path;
import java.util.ArrayList;
import java.util.List;
import java.util.Map;
import java.util.Set;
import java.util.TreeMap;
import java.util.TreeSet;
import java.util.regex.MatchResult;
import java.util.regex.Matcher;
import java.util.regex.Pattern;
import java.util.stream.Collectors;
import java.util.stream.Stream;
import javax.tools.ToolProvider;

/** What README.md says is so: its example, the calls and the tests that it names. */
public final class ReadmeTest {
    private static final Due DUE = new Due("ReadmeTest");
    private static final Path README = Path.of("README.md");
    private static final Path TESTS = Path.of("src/test/java");
    /** A call alone on its line, with its answer behind it: a number, or a constant of the class. */
    private static final Pattern TOLD = Pattern.compile("^(x\\.\\w+\\(.*\\)); +// (-?\\d+|[A-Z]+):.*$");

    public static void main(String[] args) throws IOException, ReflectiveOperationException {
        String page = Files.readString(README);
        example(page);
        namesEveryCall(page);
        namesEveryTest(page);
        DUE.end();
    }

    private static void example(String page) throws IOException, ReflectiveOperationException {
        Matcher block = Pattern.compile("(?s)```java\n(.*?)```").matcher(page);
        DUE.holds("there is an example", block.find());
        List<String> told = new ArrayList<>();
        long[][] answers = answers(asClass(block.group(1), told));
        DUE.holds("the example tells answers", told.size() > 20);
        for (int i = 0; i < told.size(); i++) {
            DUE.is(told.get(i), answers[i][0], answers[i][1]);
        }
        DUE.holds("there is one example", !block.find());
    }

    /** The example as a class, whose answers() has a row for each call told: what it answers, what is told. */
    private static String asClass(String example, List<String> told) {
        StringBuilder code = new StringBuilder("public final class ReadmeExample {\n"
            + "public static long[][] answers() {\njava.util.List<long[]> rows = new java.util.ArrayList<>();\n");
        for (String line : example.split("\n")) {
            Matcher call = TOLD.matcher(line);
            if (call.matches()) {
                String answer = call.group(2).matches("[A-Z]+") ? "GorseGold." + call.group(2) : call.group(2);
                code.append("rows.add(new long[] {").append(call.group(1)).append(", ").append(answer).append("});\n");
                told.add(call.group(1));
            } else {
                code.append(line).append('\n');
            }
        }
        return code.append("return rows.toArray(new long[0][]);\n}\n}\n").toString();
    }

    private static long[][] answers(String source) throws IOException, ReflectiveOperationException {
        Path folder = Files.createTempDirectory("readme");
        Path file = folder.resolve("ReadmeExample.java");
        Path made = folder.resolve("ReadmeExample.class");
        try {
            Files.writeString(file, source);
            int failed = ToolProvider.getSystemJavaCompiler().run(null, null, null, "-proc:none", "-cp",
                System.getProperty("java.class.path"), "-d", folder.toString(), file.toString());
            DUE.is("the example compiles", failed, 0);
            try (URLClassLoader loader = new URLClassLoader(new URL[] {folder.toUri().toURL()})) {
                return (long[][]) loader.loadClass("ReadmeExample").getMethod("answers").invoke(null);
            }
        } finally {
            Files.deleteIfExists(made);
            Files.deleteIfExists(file);
            Files.delete(folder);
        }
    }

    /** In the tables, each with as many arguments as it takes. */
    private static void namesEveryCall(String page) {
        Map<String, Integer> want = new TreeMap<>();
        for (Method m : GorseGold.class.getDeclaredMethods()) {
            if (Modifier.isPublic(m.getModifiers())) {
                want.put(m.getName(), m.getParameterCount());
            }
        }
        Map<String, Integer> got = new TreeMap<>();
        for (String row : page.split("\n")) {
            if (row.startsWith("| `")) {
                Pattern.compile("`(\\w+)\\((.*?)\\)`").matcher(row.substring(0, row.indexOf(" | "))).results()
                    .forEach(call -> got.put(call.group(1), call.group(2).isEmpty() ? 0 : call.group(2).split(",").length));
            }
        }
        DUE.holds("the calls are " + want + ", not " + got, want.equals(got));
    }

    private static void namesEveryTest(String page) throws IOException {
        Set<String> got = Pattern.compile("`(\\w+Test)`").matcher(page).results().map((MatchResult r) -> r.group(1))
            .collect(Collectors.toCollection(TreeSet::new));
        try (Stream<Path> files = Files.list(TESTS)) {
            Set<String> want = files.map(f -> f.getFileName().toString()).filter(f -> f.endsWith("Test.java"))
                .map(f -> f.replace(".java", "")).collect(Collectors.toCollection(TreeSet::new));
            DUE.holds("the tests are " + want + ", not " + got, want.equals(got));
        }
    }
}
