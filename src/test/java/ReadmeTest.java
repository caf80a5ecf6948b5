import java.io.IOException;
import java.io.StringWriter;
import java.io.UncheckedIOException;
import java.lang.reflect.Method;
import java.lang.reflect.Modifier;
import java.net.URL;
import java.net.URLClassLoader;
import java.nio.file.Files;
import java.nio.file.Path;
import java.util.ArrayList;
import java.util.Comparator;
import java.util.List;
import java.util.regex.Matcher;
import java.util.regex.Pattern;
import java.util.stream.Stream;
import javax.tools.JavaCompiler;
import javax.tools.StandardJavaFileManager;
import javax.tools.ToolProvider;

/** The example of README.md does what README.md says of it; run from the project's top folder. */
public final class ReadmeTest {
    /** A statement, perhaps with a variable for its answer, and the answer that README.md tells. */
    private static final Pattern TOLD = Pattern.compile("\\s*(?:int (\\w+) = )?(.+); +// -> (-?\\w+)(?:: .*)?");

    private final Check check;
    private final List<String> lines;
    private final List<String> statements = new ArrayList<>();
    private final List<String> told = new ArrayList<>();
    private final StringBuilder program = new StringBuilder();

    private ReadmeTest(Check check, List<String> lines) {
        this.check = check;
        this.lines = lines;
    }

    public static void main(String[] args) throws Exception {
        Check check = new Check();
        ReadmeTest test = new ReadmeTest(check, Files.readAllLines(Path.of("README.md")));
        test.readExample();
        test.everyCall();
        test.answers();
        test.everyTest();
        check.finish();
    }

    /** The parts of the example, one behind the other, are one program. */
    private void readExample() {
        boolean inside = false;
        for (String line : lines) {
            if (line.startsWith("```")) {
                inside = line.equals("```java");
            } else if (inside) {
                program.append(withAnswerKept(line)).append('\n');
            }
        }
    }

    private String withAnswerKept(String line) {
        Matcher matcher = TOLD.matcher(line);
        if (!matcher.matches()) {
            check.due("an answer that is not understood: " + line, line.contains("->"), false);
            return line;
        }
        statements.add(matcher.group(2));
        told.add(matcher.group(3));
        if (matcher.group(1) == null) {
            return "answers.add(String.valueOf(" + matcher.group(2) + "));";
        }
        return "int " + matcher.group(1) + " = " + matcher.group(2) + "; answers.add(String.valueOf("
                + matcher.group(1) + "));";
    }

    private void everyCall() {
        check.part("README.md tells each call, in its table and in its example");
        String text = String.join("\n", lines);
        for (Method method : BlockExchange.class.getDeclaredMethods()) {
            if (Modifier.isPublic(method.getModifiers())) {
                String name = method.getName();
                check.due(name + " in the table", text.contains("\n| `" + name + "("), true);
                check.due(name + " in the example", program.indexOf("x." + name + "(") >= 0, true);
            }
        }
    }

    private void answers() throws Exception {
        check.part("the example of README.md");
        Path folder = Files.createTempDirectory("readme");
        try {
            List<String> got = new ArrayList<>();
            if (compile(folder)) {
                run(folder, got);
            }
            check.due("how many answers", got.size(), told.size());
            for (int i = 0; i < got.size(); i++) {
                check.due(statements.get(i), got.get(i), told.get(i));
            }
            check.due("answers in the example", told.size() > 40, true);
        } finally {
            removeAll(folder);
        }
    }

    private boolean compile(Path folder) throws IOException {
        Path source = folder.resolve("ReadmeExample.java");
        Files.writeString(source, "public final class ReadmeExample {\n"
                + "public static void run(java.util.List<String> answers) {\n" + program + "}\n}\n");
        JavaCompiler compiler = ToolProvider.getSystemJavaCompiler();
        check.due("a compiler", compiler != null, true);
        if (compiler == null) {
            return false;
        }
        StringWriter faults = new StringWriter();
        List<String> options = List.of("-d", folder.toString(), "-classpath", System.getProperty("java.class.path"));
        try (StandardJavaFileManager files = compiler.getStandardFileManager(null, null, null)) {
            compiler.getTask(faults, files, null, options, null, files.getJavaFileObjects(source)).call();
        }
        check.due("compiling", faults.toString(), "");
        return faults.toString().isEmpty();
    }

    private static void run(Path folder, List<String> answers) throws Exception {
        try (URLClassLoader loader = new URLClassLoader(new URL[] {folder.toUri().toURL()})) {
            loader.loadClass("ReadmeExample").getMethod("run", List.class).invoke(null, answers);
        }
    }

    private static void removeAll(Path folder) throws IOException {
        try (Stream<Path> paths = Files.walk(folder)) {
            paths.sorted(Comparator.reverseOrder()).forEach(ReadmeTest::remove);
        }
    }

    private static void remove(Path path) {
        try {
            Files.delete(path);
        } catch (IOException fault) {
            throw new UncheckedIOException(fault);
        }
    }

    private void everyTest() throws IOException {
        check.part("README.md tells each test");
        try (Stream<Path> files = Files.list(Path.of("src/test/java"))) {
            for (Path file : files.toList()) {
                String name = file.getFileName().toString().replace(".java", "");
                boolean isTest = name.endsWith("Test");
                check.due(name, isTest && !String.join("\n", lines).contains("\n| " + name + " |"), false);
            }
        }
    }
}
