import java.io.IOException;
import java.io.StringWriter;
import java.lang.reflect.Method;
import java.lang.reflect.Modifier;
import java.net.URL;
import java.net.URLClassLoader;
import java.nio.file.Files;
import java.nio.file.Path;
import java.util.ArrayList;
import java.util.Comparator;
import java.util.List;
import java.util.regex.Matcher;
import java.util.regex.Pattern;
import java.util.stream.Stream;
import javax.tools.JavaCompiler;
import javax.tools.StandardJavaFileManager;
import javax.tools.ToolProvider;

/** README.md: its example is compiled and run as it stands there, and it names each method and each test. */
public final class ReadmeTest {
    private static final Pattern BLOCK = Pattern.compile("```java\n(.*?)```", Pattern.DOTALL);
    private static final Pattern ANSWERED = Pattern.compile("(.*);\\s+// (-?\\d+): .*");

    public static void main(String[] args) throws Exception {
        String page = Files.readString(Path.of("README.md"));
        namesEachMethod(page);
        namesEachTest(page);
        List<String> blocks = new ArrayList<>();
        Matcher matcher = BLOCK.matcher(page);
        while (matcher.find()) {
            blocks.add(matcher.group(1));
        }
        Check.is("blocks of code", blocks.size(), 2);
        if (blocks.size() == 2) {
            run(blocks.get(0), blocks.get(1));
        }
        Check.end();
    }

    private static void namesEachMethod(String page) {
        for (Method method : ElectionTabulator.class.getDeclaredMethods()) {
            if (Modifier.isPublic(method.getModifiers())) {
                String name = "`" + method.getName() + "`";
                Check.is("README.md names " + name, page.contains(name) ? 1 : 0, 1);
            }
        }
    }

    private static void namesEachTest(String page) throws IOException {
        try (Stream<Path> files = Files.list(Path.of("src/test/java"))) {
            for (Path file : files.toList()) {
                String name = file.getFileName().toString().replace(".java", "");
                if (name.endsWith("Test")) {
                    Check.is("README.md names " + name, page.matches("(?s).*\\b" + name + "\\b.*") ? 1 : 0, 1);
                }
            }
        }
    }

    /** The answers that the lines of the example name, in their order. */
    private static List<Long> due(String example) {
        List<Long> answers = new ArrayList<>();
        for (String line : example.split("\n")) {
            Matcher matcher = ANSWERED.matcher(line);
            if (matcher.matches()) {
                answers.add(Long.parseLong(matcher.group(2)));
            }
        }
        return answers;
    }

    /** A class that keeps the answer of each line that names one; the other lines stay as they are. */
    private static String program(String method, String example) {
        StringBuilder text = new StringBuilder("public final class Readme {\n");
        text.append(method).append("public static java.util.List<Long> run() {\n");
        text.append("java.util.List<Long> answers = new java.util.ArrayList<>();\n");
        for (String line : example.split("\n")) {
            Matcher matcher = ANSWERED.matcher(line);
            text.append(matcher.matches() ? "answers.add((long) " + matcher.group(1) + ");" : line).append('\n');
        }
        return text.append("return answers;\n}\n}\n").toString();
    }

    private static void run(String method, String example) throws Exception {
        List<Long> due = due(example);
        Check.is("lines with an answer", due.size() > 10 ? 1 : 0, 1);
        Path folder = Files.createTempDirectory("readme");
        try {
            Path file = Files.writeString(folder.resolve("Readme.java"), program(method, example));
            if (compiles(file, folder)) {
                try (URLClassLoader loader = new URLClassLoader(new URL[] {folder.toUri().toURL()},
                        ReadmeTest.class.getClassLoader())) {
                    Object got = loader.loadClass("Readme").getMethod("run").invoke(null);
                    Check.isText("the answers of the example", got.toString(), due.toString());
                }
            }
        } finally {
            remove(folder);
        }
    }

    private static boolean compiles(Path file, Path folder) throws IOException {
        JavaCompiler compiler = ToolProvider.getSystemJavaCompiler();
        StringWriter said = new StringWriter();
        try (StandardJavaFileManager files = compiler.getStandardFileManager(null, null, null)) {
            List<String> options = List.of("-proc:none", "-cp", System.getProperty("java.class.path"),
                "-d", folder.toString());
            boolean right = compiler.getTask(said, files, null, options, null, files.getJavaFileObjects(file)).call();
            Check.isText("what the compiler says of the example", said.toString(), "");
            return right;
        }
    }

    private static void remove(Path folder) throws IOException {
        try (Stream<Path> files = Files.walk(folder)) {
            for (Path file : files.sorted(Comparator.reverseOrder()).toList()) {
                Files.delete(file);
            }
        }
    }
}
