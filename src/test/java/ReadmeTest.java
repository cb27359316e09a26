import java.io.IOException;
import java.lang.reflect.Method;
import java.lang.reflect.Modifier;
import java.net.URL;
import java.net.URLClassLoader;
import java.nio.file.Files;
import java.nio.file.Path;
import java.util.ArrayList;
import java.util.List;
import java.util.Map;
import java.util.Set;
import java.util.TreeSet;
import java.util.regex.Matcher;
import java.util.regex.Pattern;
import java.util.stream.Collectors;
import java.util.stream.Stream;
import javax.tools.JavaCompiler;
import javax.tools.ToolProvider;

/** README.md is true: its rows of Java compile and answer what stands behind them, and it names every test. */
public final class ReadmeTest {
    private static final Path README = Path.of("README.md");
    private static final Path TESTS = Path.of("src/test/java");
    private static final Pattern BLOCK = Pattern.compile("(?s)```java\\n(.*?)```");
    private static final Pattern ROW = Pattern.compile("(?:int (\\w+) = )?([^=;]+); +// (-?\\d+|[A-Z]+)(?:: .+)?");
    private static final String BEGIN = "CurveTies ties = new CurveTies();";
    private static final Map<String, Long> NAMED = Map.of(
            "UNKNOWN", -9001L, "OUTSIDE", -9002L, "STATE", -9003L, "ROOM", -9004L);
    private static final Due due = new Due();

    public static void main(String[] args) throws IOException, ReflectiveOperationException {
        String text = Files.readString(README);
        String use = use(text);
        everyCallIsShown(use);
        answersAreTrue(use);
        everyTestIsNamed(text);
        due.is("README.md tells how to run the tests", text.contains("    .ci/run\n") ? 1 : 0, 1);
        due.end();
    }

    /** All blocks of Java, one behind the other: they are one run. */
    private static String use(String text) {
        return BLOCK.matcher(text).results().map(found -> found.group(1)).collect(Collectors.joining());
    }

    private static void everyCallIsShown(String use) {
        for (Method method : CurveTies.class.getDeclaredMethods()) {
            if (Modifier.isPublic(method.getModifiers())) {
                due.is("README.md shows " + method.getName(), use.contains("ties." + method.getName() + "(") ? 1 : 0, 1);
            }
        }
    }

    private static void answersAreTrue(String use) throws IOException, ReflectiveOperationException {
        List<String> rows = new ArrayList<>();
        List<Long> wanted = new ArrayList<>();
        StringBuilder body = new StringBuilder();
        for (String row : use.split("\n")) {
            Matcher read = ROW.matcher(row);
            if (row.equals(BEGIN)) {
                body.append(row).append('\n');
            } else if (read.matches() && isAnswer(read.group(3))) {
                body.append(asCode(read, rows.size()));
                rows.add(read.group(2));
                wanted.add(answer(read.group(3)));
            } else {
                due.is("answers named by the row " + row, 0, 1);
            }
        }
        long[] told = run(body.toString(), rows.size());
        due.is("answers told", told.length, rows.size());
        for (int i = 0; i < told.length; i++) {
            due.is("README.md: " + rows.get(i), told[i], wanted.get(i));
        }
    }

    private static boolean isAnswer(String word) {
        return NAMED.containsKey(word) || !Character.isLetter(word.charAt(0));
    }

    private static long answer(String word) {
        return NAMED.containsKey(word) ? NAMED.get(word) : Long.parseLong(word);
    }

    private static String asCode(Matcher row, int i) {
        String name = row.group(1);
        if (name == null) {
            return "told[" + i + "] = " + row.group(2) + ";\n";
        }
        return "int " + name + " = " + row.group(2) + ";\ntold[" + i + "] = " + name + ";\n";
    }

    private static long[] run(String body, int answers) throws IOException, ReflectiveOperationException {
        Path folder = Files.createTempDirectory("readme");
        Path source = folder.resolve("ReadmeUse.java");
        Path compiled = folder.resolve("ReadmeUse.class");
        Files.writeString(source, "public final class ReadmeUse {\npublic static long[] told() {\nlong[] told = new long["
                + answers + "];\n" + body + "return told;\n}\n}\n");
        JavaCompiler compiler = ToolProvider.getSystemJavaCompiler();
        int failed = compiler.run(null, null, null, "-proc:none", "-cp", System.getProperty("java.class.path"),
                "-d", folder.toString(), source.toString());
        due.is("compiling what README.md shows", failed, 0);
        long[] told = failed == 0 ? call(folder) : new long[0];
        Files.deleteIfExists(source);
        Files.deleteIfExists(compiled);
        Files.delete(folder);
        return told;
    }

    private static long[] call(Path folder) throws IOException, ReflectiveOperationException {
        try (URLClassLoader loader = new URLClassLoader(new URL[] {folder.toUri().toURL()})) {
            return (long[]) loader.loadClass("ReadmeUse").getMethod("told").invoke(null);
        }
    }

    private static void everyTestIsNamed(String text) throws IOException {
        Set<String> named = new TreeSet<>();
        Pattern.compile("(?m)^\\| (\\w+Test) \\|").matcher(text).results().forEach(found -> named.add(found.group(1)));
        Set<String> present = new TreeSet<>();
        try (Stream<Path> files = Files.list(TESTS)) {
            files.map(file -> file.getFileName().toString())
                    .filter(name -> name.endsWith("Test.java"))
                    .forEach(name -> present.add(name.substring(0, name.length() - ".java".length())));
        }
        due.is("README.md names the tests " + named + ", there are " + present, named.equals(present) ? 1 : 0, 1);
    }
}
