import java.io.ByteArrayOutputStream;
import java.io.IOException;
import java.io.PrintStream;
import java.lang.reflect.InvocationTargetException;
import java.net.URL;
import java.net.URLClassLoader;
import java.nio.charset.StandardCharsets;
import java.nio.file.Files;
import java.nio.file.Path;
import java.util.ArrayList;
import java.util.List;
import java.util.Set;
import java.util.TreeSet;
import java.util.regex.Matcher;
import java.util.regex.Pattern;
import java.util.stream.Collectors;
import java.util.stream.Stream;
import javax.tools.JavaCompiler;
import javax.tools.ToolProvider;

/** What README.md tells is so: its example compiles and answers as told. Run in the project's folder. */
public final class ReadmeTest {
    private static final Pattern EXAMPLE = Pattern.compile("(?s)```java\n(.*?)```");
    private static final Pattern PRINTED = Pattern.compile("System\\.out\\.println\\((.*)\\); *// (-?\\w+)(:.*)?");
    private static final Pattern TOLD = Pattern.compile("(?m)^\\| `(\\w+Test)` \\|");
    private static final Due due = new Due("ReadmeTest");

    public static void main(String[] args) throws Exception {
        String page = Files.readString(Path.of("README.md"));
        example(page);
        table(page);
        due.end();
    }

    private static void example(String page) throws Exception {
        Matcher m = EXAMPLE.matcher(page);
        if (!m.find()) {
            due.holds("README.md has no example", false);
            return;
        }
        String source = m.group(1);
        List<String> calls = new ArrayList<>();
        List<String> answers = new ArrayList<>();
        Matcher line = PRINTED.matcher(source);
        while (line.find()) {
            calls.add(line.group(1));
            answers.add(line.group(2));
        }
        due.is("lines that print without an answer told", source.split("println").length - 1 - calls.size(), 0);
        due.holds("the example asks nothing", !calls.isEmpty());
        List<String> printed = run(source);
        due.is("lines that the example prints", printed.size(), calls.size());
        for (int i = 0; i < calls.size() && i < printed.size(); i++) {
            due.holds(calls.get(i) + " answers " + printed.get(i) + ", README.md says " + answers.get(i),
                printed.get(i).equals(answers.get(i)));
        }
    }

    private static List<String> run(String source) throws Exception {
        JavaCompiler javac = ToolProvider.getSystemJavaCompiler();
        if (javac == null) {
            due.holds("there is no javac", false);
            return List.of();
        }
        Path folder = Files.createTempDirectory("readme");
        try {
            Path file = folder.resolve("Example.java");
            Files.writeString(file, source);
            int failed = javac.run(null, null, null, "-Xlint:all", "-Werror", "-cp", System.getProperty("java.class.path"),
                "-d", folder.toString(), file.toString());
            due.is("javac of the example", failed, 0);
            return failed == 0 ? printedBy(folder) : List.of();
        } finally {
            remove(folder);
        }
    }

    private static List<String> printedBy(Path folder) throws Exception {
        ByteArrayOutputStream printed = new ByteArrayOutputStream();
        PrintStream before = System.out;
        try (URLClassLoader loader = new URLClassLoader(new URL[] {folder.toUri().toURL()})) {
            System.setOut(new PrintStream(printed, true, StandardCharsets.US_ASCII));
            loader.loadClass("Example").getMethod("main", String[].class).invoke(null, (Object) new String[0]);
        } catch (InvocationTargetException e) {
            throw new IllegalStateException("the example threw", e.getCause());
        } finally {
            System.setOut(before);
        }
        return printed.toString(StandardCharsets.US_ASCII).lines().toList();
    }

    private static void remove(Path folder) throws IOException {
        try (Stream<Path> files = Files.list(folder)) {
            for (Path file : files.toList()) {
                Files.delete(file);
            }
        }
        Files.delete(folder);
    }

    private static void table(String page) throws IOException {
        Set<String> told = new TreeSet<>();
        Matcher m = TOLD.matcher(page);
        while (m.find()) {
            told.add(m.group(1));
        }
        try (Stream<Path> files = Files.list(Path.of("src/test/java"))) {
            Set<String> there = files.map(f -> f.getFileName().toString().replace(".java", ""))
                .filter(f -> f.endsWith("Test")).collect(Collectors.toCollection(TreeSet::new));
            due.holds("the tests are " + there + ", README.md tells of " + told, told.equals(there));
        }
    }
}
