import java.io.File;
import java.io.IOException;
import java.lang.reflect.InvocationTargetException;
import java.lang.reflect.Method;
import java.lang.reflect.Modifier;
import java.net.URL;
import java.net.URLClassLoader;
import java.nio.file.Files;
import java.nio.file.Path;
import java.util.ArrayList;
import java.util.List;
import java.util.regex.Matcher;
import java.util.regex.Pattern;
import javax.tools.JavaCompiler;
import javax.tools.ToolProvider;

/**
 * README.md: its code is a program whose calls answer what stands behind them, it has every call of the face,
 * and its table has every test (run in the project's folder).
 */
public final class ReadmeTest {
    private static final Pattern BLOCK = Pattern.compile("(?s)```java\n(.*?)```");
    private static final Pattern NEW = Pattern.compile("ModelShelf (\\w+) = new ModelShelf\\(\\);");
    private static final Pattern ANSWERED = Pattern.compile(
        "(?:int (\\w+) = )?(\\w.*\\));\\s*// (-?\\d+|true|false|NONE|NO_ANSWER|throws \\w+)(?:: .*)?");

    private final StringBuilder methods = new StringBuilder();
    private final StringBuilder statements = new StringBuilder();
    private final List<String> lines = new ArrayList<>();
    private final List<String> due = new ArrayList<>();

    public static void main(String[] args) throws IOException, ReflectiveOperationException {
        String readme = Files.readString(Path.of("README.md"));
        ReadmeTest test = new ReadmeTest();
        Matcher block = BLOCK.matcher(readme);
        while (block.find()) {
            test.take(block.group(1));
        }
        test.answersAreAsDue();
        hasEveryCall(test.statements.toString());
        hasEveryTest(readme);
        Check.end();
    }

    private void take(String block) {
        if (block.startsWith("static ")) {
            methods.append(block);
            return;
        }
        for (String line : block.split("\n")) {
            takeLine(line);
        }
    }

    private void takeLine(String line) {
        Matcher answered = ANSWERED.matcher(line);
        if (!answered.matches()) {
            Check.yes("README.md says what is answered: " + line, NEW.matcher(line).matches());
            statements.append(line).append('\n');
            return;
        }
        String name = answered.group(1);
        String call = answered.group(2);
        String answer = answered.group(3);
        lines.add(line);
        due.add(answer.replace("NONE", "-1").replace("NO_ANSWER", "-2147483648"));
        if (answer.startsWith("throws")) {
            statements.append("try { got.add(\"\" + ").append(call)
                .append("); } catch (RuntimeException e) { got.add(\"throws \" + e.getClass().getSimpleName()); }\n");
        } else if (name == null) {
            statements.append("got.add(\"\" + ").append(call).append(");\n");
        } else {
            statements.append("int ").append(name).append(" = ").append(call).append(";\n");
            statements.append("got.add(\"\" + ").append(name).append(");\n");
        }
    }

    private void answersAreAsDue() throws IOException, ReflectiveOperationException {
        List<?> got = run();
        Check.same("README.md's answers", got.size(), due.size());
        for (int i = 0; i < due.size() && i < got.size(); i++) {
            Check.yes("README.md says: " + lines.get(i).replaceAll(" +", " ") + " (got " + got.get(i) + ")",
                got.get(i).equals(due.get(i)));
        }
    }

    private List<?> run() throws IOException, ReflectiveOperationException {
        Path folder = Files.createTempDirectory("readme");
        Path source = folder.resolve("ReadmeProgram.java");
        Path made = folder.resolve("ReadmeProgram.class");
        try {
            Files.writeString(source, "public final class ReadmeProgram {\n" + methods
                + "public static java.util.List<String> run() {\n"
                + "java.util.List<String> got = new java.util.ArrayList<>();\n" + statements
                + "return got;\n}\n}\n");
            JavaCompiler compiler = ToolProvider.getSystemJavaCompiler();
            int code = compiler.run(null, null, null,
                "-cp", System.getProperty("java.class.path"), "-d", folder.toString(), source.toString());
            Check.same("compiling README.md's program", code, 0);
            return code == 0 ? answersOf(folder) : List.of();
        } finally {
            Files.deleteIfExists(made);
            Files.deleteIfExists(source);
            Files.deleteIfExists(folder);
        }
    }

    private static List<?> answersOf(Path folder) throws IOException, ReflectiveOperationException {
        URL[] from = {folder.toUri().toURL()};
        try (URLClassLoader loader = new URLClassLoader(from, ReadmeTest.class.getClassLoader())) {
            return (List<?>) loader.loadClass("ReadmeProgram").getMethod("run").invoke(null);
        } catch (InvocationTargetException e) {
            Check.yes("README.md's program ends: " + e.getCause(), false);
            return List.of();
        }
    }

    private static void hasEveryCall(String program) {
        for (Method method : ModelShelf.class.getDeclaredMethods()) {
            if (Modifier.isPublic(method.getModifiers())) {
                Check.yes("README.md shows " + method.getName(), program.contains("shelf." + method.getName() + "("));
            }
        }
    }

    private static void hasEveryTest(String readme) {
        Check.yes("README.md says how the tests are run", readme.contains("```sh\n.ci/run\n```"));
        File[] files = new File("src/test/java").listFiles((folder, name) -> name.endsWith("Test.java"));
        for (File file : files == null ? new File[0] : files) {
            String name = file.getName().replace(".java", "");
            Check.yes("README.md's table has " + name, readme.contains("\n| `" + name + "` | "));
        }
    }
}
