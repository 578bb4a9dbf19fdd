import java.io.IOException;
import java.lang.reflect.Field;
import java.lang.reflect.Method;
import java.lang.reflect.Modifier;
import java.net.URL;
import java.net.URLClassLoader;
import java.nio.file.DirectoryStream;
import java.nio.file.Files;
import java.nio.file.Path;
import java.util.ArrayList;
import java.util.List;
import java.util.function.Supplier;
import java.util.regex.Matcher;
import java.util.regex.Pattern;
import javax.tools.ToolProvider;

/** README.md as the project stands: its example answers what it says, and every call, constant and test is named. */
public final class ReadmeTest {
    private static final Pattern LINE = Pattern.compile("(?:int (\\w+) = )?(x\\.(\\w+)\\(.*\\)); +// (-?\\d+|[A-Z]+)\\b.*");

    public static void main(String[] args) throws Exception {
        Path root = Path.of(args.length > 0 ? args[0] : ".");
        String page = Files.readString(root.resolve("README.md"));
        exampleAnswersAsItSays(page);
        callsAndConstantsAreNamed(page);
        testsAreNamed(root, page);
        Check.end();
    }

    private static String exampleOf(String page) {
        Matcher block = Pattern.compile("(?s)```java\n(.*?)```").matcher(page);
        return block.find() ? block.group(1) : "";
    }

    private static void exampleAnswersAsItSays(String page) throws Exception {
        StringBuilder body = new StringBuilder();
        List<String> lines = new ArrayList<>();
        List<String> calls = new ArrayList<>();
        for (String line : exampleOf(page).split("\n")) {
            Matcher m = LINE.matcher(line);
            if (m.matches()) {
                String name = m.group(1) == null ? "answer" + lines.size() : m.group(1);
                String due = m.group(4).matches("[A-Z]+") ? "HullRegister." + m.group(4) : m.group(4);
                body.append("int ").append(name).append(" = ").append(m.group(2)).append(";\n")
                    .append("told.add(new int[] {").append(name).append(", ").append(due).append("});\n");
                lines.add(line);
                calls.add(m.group(3));
            } else {
                Check.holds("a line of the example is a call with its answer: " + line,
                        line.isEmpty() || line.equals("HullRegister x = new HullRegister();"));
                body.append(line).append('\n');
            }
        }
        for (Method m : publicCalls()) {
            Check.holds("the example uses " + m.getName(), calls.contains(m.getName()));
        }
        List<int[]> told = answersOf(body.toString());
        for (int i = 0; i < told.size(); i++) {
            Check.due("README.md: " + lines.get(i), told.get(i)[0], told.get(i)[1]);
        }
    }

    /** Each answer of the example with the one that is due, by a class that is made of it. */
    private static List<int[]> answersOf(String body) throws Exception {
        Path made = Files.createTempDirectory("readme");
        Path source = made.resolve("ReadmeExample.java");
        Files.writeString(source, "import java.util.*;\n"
            + "public final class ReadmeExample implements java.util.function.Supplier<List<int[]>> {\n"
            + "public List<int[]> get() {\nList<int[]> told = new ArrayList<>();\n" + body + "return told;\n}\n}\n");
        try (URLClassLoader loader = new URLClassLoader(new URL[] {made.toUri().toURL()},
                ReadmeTest.class.getClassLoader())) {
            int failed = ToolProvider.getSystemJavaCompiler().run(null, null, null, "-proc:none",
                    "-cp", System.getProperty("java.class.path"), "-d", made.toString(), source.toString());
            Check.due("the compiler's answer for the example", failed, 0);
            return failed == 0 ? answersBy(loader.loadClass("ReadmeExample")) : List.of();
        } finally {
            removeAll(made);
        }
    }

    private static List<int[]> answersBy(Class<?> example) throws Exception {
        List<int[]> told = new ArrayList<>();
        for (Object pair : (List<?>) ((Supplier<?>) example.getConstructor().newInstance()).get()) {
            told.add((int[]) pair);
        }
        return told;
    }

    private static void removeAll(Path directory) throws IOException {
        try (DirectoryStream<Path> files = Files.newDirectoryStream(directory)) {
            for (Path file : files) {
                Files.delete(file);
            }
        }
        Files.delete(directory);
    }

    private static List<Method> publicCalls() {
        List<Method> calls = new ArrayList<>();
        for (Method m : HullRegister.class.getDeclaredMethods()) {
            if (Modifier.isPublic(m.getModifiers())) {
                calls.add(m);
            }
        }
        return calls;
    }

    private static void callsAndConstantsAreNamed(String page) throws IllegalAccessException {
        for (Method m : publicCalls()) {
            int parameters = m.getParameterCount();
            String row = "\\| `" + m.getName() + "\\((\\w+(, \\w+){" + Math.max(0, parameters - 1) + "})"
                + (parameters == 0 ? "{0}" : "") + "\\)` \\|";
            Check.holds("a row of " + m.getName() + " with its parameters", Pattern.compile(row).matcher(page).find());
        }
        for (Field f : HullRegister.class.getFields()) {
            Check.holds("a row of " + f.getName(), page.contains("| `" + f.getName() + "` | " + f.getInt(null) + " |"));
        }
    }

    private static void testsAreNamed(Path root, String page) throws IOException {
        try (DirectoryStream<Path> files = Files.newDirectoryStream(root.resolve("src/test/java"), "*Test.java")) {
            for (Path file : files) {
                String name = file.getFileName().toString().replace(".java", "");
                Check.holds("a row of " + name, Pattern.compile("(?m)^\\|.*\\b" + name + "\\b.*\\|$").matcher(page).find());
            }
        }
    }
}
