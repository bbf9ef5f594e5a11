import java.io.IOException;
import java.lang.reflect.Method;
import java.lang.reflect.Modifier;
import java.net.URL;
import java.net.URLClassLoader;
import java.nio.file.Files;
import java.nio.file.Path;
import java.util.ArrayList;
import java.util.List;
import java.util.TreeSet;
import java.util.regex.Matcher;
import java.util.regex.Pattern;
import java.util.stream.Stream;
import javax.tools.ToolProvider;

/** README.md tells each call of the face, each test, and a program that answers as told. Run from the project's folder. */
public final class ReadmeTest {
    private static final Path README = Path.of("README.md");
    private static final Path TESTS = Path.of("src/test/java");
    private static final Pattern TOLD_CALL = Pattern.compile("`(\\w+)\\(([^)]*)\\)`");
    private static final Pattern TOLD_TEST = Pattern.compile("^\\| `(\\w+)` \\|");
    private static final Pattern TOLD_ANSWER = Pattern.compile("^(?:int|long) (\\w+) = .*; +// (-?\\d+)");
    private static final Checks CHECKS = new Checks();

    private ReadmeTest() { }

    public static void main(String[] args) throws Exception {
        String readme = Files.readString(README);
        calls(readme);
        tests(readme);
        program(readme.split("```java\n")[1].split("```")[0]);
        CHECKS.finish("ReadmeTest");
    }

    private static void same(String what, TreeSet<String> told, TreeSet<String> due) {
        if (!told.equals(due)) System.out.println(what + " told are " + told + ", due are " + due);
        CHECKS.due(what, told.equals(due) ? 1 : 0, 1);
    }

    private static void calls(String readme) {
        TreeSet<String> told = new TreeSet<>();
        for (String line : readme.split("\n")) {
            if (!line.startsWith("| `")) continue;
            Matcher call = TOLD_CALL.matcher(line.split("\\|")[1]);
            while (call.find()) told.add(call.group(1) + " " + (call.group(2).isEmpty() ? 0 : call.group(2).split(",").length));
        }
        TreeSet<String> due = new TreeSet<>();
        for (Method m : UpWithSheaf.class.getDeclaredMethods()) {
            if (Modifier.isPublic(m.getModifiers())) due.add(m.getName() + " " + m.getParameterCount());
        }
        same("calls", told, due);
    }

    private static void tests(String readme) throws IOException {
        TreeSet<String> told = new TreeSet<>();
        for (String line : readme.split("\n")) {
            Matcher test = TOLD_TEST.matcher(line);
            if (test.find()) told.add(test.group(1));
        }
        TreeSet<String> due = new TreeSet<>();
        try (Stream<Path> files = Files.list(TESTS)) {
            files.map(f -> f.getFileName().toString()).filter(f -> f.endsWith("Test.java"))
                .forEach(f -> due.add(f.replace(".java", "")));
        }
        same("tests", told, due);
    }

    /** The program as it stands there, compiled; then each answer that is told beside its line. */
    private static void program(String lines) throws Exception {
        List<String> names = new ArrayList<>();
        List<Long> due = new ArrayList<>();
        for (String line : lines.split("\n")) {
            Matcher answer = TOLD_ANSWER.matcher(line);
            if (!answer.find()) continue;
            names.add(answer.group(1));
            due.add(Long.parseLong(answer.group(2)));
        }
        CHECKS.due("answers are told", names.size() > 2 ? 1 : 0, 1);
        Path folder = Files.createTempDirectory("readme");
        try {
            Path file = folder.resolve("Told.java");
            Files.writeString(file, "public class Told { public static long[] answers() {\n" + lines
                + "return new long[] {" + String.join(", ", names) + "}; } }\n");
            String path = System.getProperty("java.class.path");
            int failed = ToolProvider.getSystemJavaCompiler().run(null, null, null, "-cp", path, "-d", folder.toString(), file.toString());
            CHECKS.due("README's program compiles", failed, 0);
            if (failed != 0) return;
            long[] answers = answers(folder);
            for (int i = 0; i < answers.length; i++) CHECKS.due(names.get(i), answers[i], due.get(i));
        } finally {
            for (String name : new String[] {"Told.java", "Told.class", ""}) Files.deleteIfExists(folder.resolve(name));
        }
    }

    private static long[] answers(Path folder) throws IOException, ReflectiveOperationException {
        try (URLClassLoader loader = new URLClassLoader(new URL[] {folder.toUri().toURL()}, ReadmeTest.class.getClassLoader())) {
            return (long[]) loader.loadClass("Told").getMethod("answers").invoke(null);
        }
    }
}
