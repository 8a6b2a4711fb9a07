import java.io.IOException;
import java.lang.reflect.Method;
import java.lang.reflect.Modifier;
import java.net.URL;
import java.net.URLClassLoader;
import java.nio.file.Files;
import java.nio.file.Path;
import java.util.ArrayList;
import java.util.List;
import java.util.function.Supplier;
import java.util.regex.Matcher;
import java.util.regex.Pattern;
import javax.tools.ToolProvider;

/**
 * README.md's example: each call with a comment behind it answers what the comment begins with. The page names all
 * calls and all tests. It runs in the project's folder.
 */
public final class ReadmeTest {
    private static final Path PAGE = Path.of("README.md");
    private static final Path TESTS = Path.of("src/test/java");
    private static final Pattern ANSWERED =
            Pattern.compile("(house\\.[^;]+);\\s+// (-?\\d+|true|false|Figurehouse\\.[A-Z]+)\\b.*");

    public static void main(String[] args) throws Exception {
        String page = Files.readString(PAGE);
        answersAsItSays(example(page));
        namesAllCalls(page);
        namesAllTests(page);
        Check.end("ReadmeTest");
    }

    private static List<String> example(String page) {
        List<String> lines = new ArrayList<>();
        Matcher block = Pattern.compile("(?s)```java\n(.*?)```").matcher(page);
        Check.is("there is an example", block.find(), true);
        for (String line : block.group(1).split("\n")) {
            if (!line.isEmpty() && !line.startsWith("//")) {
                lines.add(line);
            }
        }
        return lines;
    }

    private static void answersAsItSays(List<String> example) throws Exception {
        List<String> asked = new ArrayList<>();
        StringBuilder body = new StringBuilder();
        for (String line : example) {
            Matcher answered = ANSWERED.matcher(line);
            if (answered.matches()) {
                asked.add(line);
                body.append("all.add(\"\" + ").append(answered.group(1)).append(");\n");
                body.append("all.add(\"\" + ").append(answered.group(2)).append(");\n");
            } else {
                Check.is("a comment begins with the answer: " + line, line.contains("//"), false);
                body.append(line).append('\n');
            }
        }
        List<String> answers = run(body.toString());
        Check.is("answers and what is due", answers.size(), 2L * asked.size());
        for (int line = 0; line < asked.size(); line++) {
            Check.is(asked.get(line), answers.get(2 * line), answers.get(2 * line + 1));
        }
    }

    private static List<String> run(String body) throws Exception {
        Path folder = Files.createTempDirectory("readme");
        Path file = folder.resolve("ReadmeExample.java");
        Files.writeString(file, "import java.util.*;\n"
                + "public final class ReadmeExample implements java.util.function.Supplier<List<String>> {\n"
                + "public List<String> get() {\nList<String> all = new ArrayList<>();\n" + body + "return all;\n}\n}\n");
        int result = ToolProvider.getSystemJavaCompiler().run(null, null, null,
                "-cp", System.getProperty("java.class.path"), "-d", folder.toString(), file.toString());
        Check.is("the example compiles", result, 0);
        try (URLClassLoader loader = new URLClassLoader(new URL[] {folder.toUri().toURL()})) {
            Supplier<?> example = (Supplier<?>) loader.loadClass("ReadmeExample").getConstructor().newInstance();
            List<String> answers = new ArrayList<>();
            ((List<?>) example.get()).forEach(answer -> answers.add(answer.toString()));
            return answers;
        } finally {
            Files.deleteIfExists(folder.resolve("ReadmeExample.class"));
            Files.delete(file);
            Files.delete(folder);
        }
    }

    private static void namesAllCalls(String page) {
        for (Method method : Figurehouse.class.getDeclaredMethods()) {
            if (Modifier.isPublic(method.getModifiers())) {
                Check.is("the call " + method.getName(), page.contains("`" + method.getName() + "("), true);
                Check.is("in the example, " + method.getName(), page.contains("house." + method.getName() + "("), true);
            }
        }
    }

    private static void namesAllTests(String page) throws IOException {
        try (var files = Files.list(TESTS)) {
            files.map(file -> file.getFileName().toString()).filter(name -> name.endsWith("Test.java"))
                    .map(name -> name.replace(".java", ""))
                    .forEach(name -> Check.is("the test " + name, page.contains("`" + name + "`"), true));
        }
    }
}
