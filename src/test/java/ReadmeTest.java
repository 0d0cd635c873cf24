import java.io.ByteArrayOutputStream;
import java.io.PrintStream;
import java.lang.reflect.Method;
import java.lang.reflect.Modifier;
import java.lang.reflect.Parameter;
import java.net.URL;
import java.net.URLClassLoader;
import java.nio.file.Files;
import java.nio.file.Path;
import java.util.ArrayList;
import java.util.Arrays;
import java.util.List;
import java.util.Set;
import java.util.TreeSet;
import java.util.stream.Collectors;
import java.util.stream.Stream;
import javax.tools.ToolProvider;

/** README.md's example prints what stands behind its calls, and its table names each call and what that throws. */
public final class ReadmeTest {
    private static final Check check = new Check();

    public static void main(String[] args) throws Exception {
        List<String> lines = Files.readAllLines(Path.of("README.md"));
        example(lines.subList(lines.indexOf("```java") + 1, lines.size()));
        check.due("the calls of the table", callsOfClass(), callsOfTable(lines));
        check.due("the tests of the table", testsThere(), testsOfTable(lines));
        check.end();
    }

    private static void example(List<String> lines) throws Exception {
        List<String> program = lines.subList(0, lines.indexOf("```"));
        List<String> due = new ArrayList<>();
        for (String line : program) {
            int comment = line.indexOf("// ");
            if (line.contains("println") && comment >= 0) {
                due.add(line.substring(comment + 3));
            }
        }
        check.due("README.md's example tells answers", true, due.size() > 10);
        check.due("what README.md's example prints", due, printed(program));
    }

    private static List<String> printed(List<String> program) throws Exception {
        Path out = Files.createTempDirectory("readme");
        try {
            Path file = Files.write(out.resolve("Example.java"), program);
            int failed = ToolProvider.getSystemJavaCompiler()
                .run(null, null, null, "-d", out.toString(), "src/main/java/Maybehall.java", file.toString());
            check.due("compiling README.md's example", 0, failed);
            return failed == 0 ? run(out) : List.of();
        } finally {
            delete(out);
        }
    }

    private static List<String> run(Path out) throws Exception {
        PrintStream before = System.out;
        ByteArrayOutputStream text = new ByteArrayOutputStream();
        try (URLClassLoader loader = new URLClassLoader(new URL[] {out.toUri().toURL()}, null)) {
            System.setOut(new PrintStream(text, true));
            loader.loadClass("Example").getMethod("main", String[].class).invoke(null, (Object) new String[0]);
        } finally {
            System.setOut(before);
        }
        return text.toString().lines().toList();
    }

    private static void delete(Path out) throws Exception {
        try (Stream<Path> files = Files.list(out)) {
            for (Path file : files.toList()) {
                Files.delete(file);
            }
        }
        Files.delete(out);
    }

    private static Set<String> callsOfTable(List<String> lines) {
        Set<String> calls = new TreeSet<>();
        for (String line : lines) {
            String[] cells = line.split("\\|", -1);
            if (cells.length == 5 && cells[1].contains("(")) {
                calls.add(cells[1].replace("`", "").strip() + " throws " + cells[3].strip());
            }
        }
        return calls;
    }

    private static Set<String> callsOfClass() {
        Set<String> calls = new TreeSet<>();
        for (Method method : Maybehall.class.getDeclaredMethods()) {
            if (Modifier.isPublic(method.getModifiers())) {
                String told = Arrays.stream(method.getParameters()).map(Parameter::getName).collect(Collectors.joining(", "));
                String thrown = Arrays.stream(method.getExceptionTypes()).map(ReadmeTest::shortName)
                    .collect(Collectors.joining(", "));
                calls.add(method.getName() + "(" + told + ") throws " + thrown);
            }
        }
        return calls;
    }

    private static String shortName(Class<?> thrown) {
        return thrown.getSimpleName().replace("OutOfBounds", "").replace("Illegal", "").replace("Exception", "");
    }

    private static Set<String> testsOfTable(List<String> lines) {
        return lines.stream().filter(line -> line.startsWith("| `") && line.contains("Test` |"))
            .map(line -> line.split("`")[1]).collect(Collectors.toCollection(TreeSet::new));
    }

    private static Set<String> testsThere() throws Exception {
        try (Stream<Path> files = Files.list(Path.of("src/test/java"))) {
            return files.map(file -> file.getFileName().toString()).filter(name -> name.endsWith("Test.java"))
                .map(name -> name.replace(".java", "")).collect(Collectors.toCollection(TreeSet::new));
        }
    }
}
