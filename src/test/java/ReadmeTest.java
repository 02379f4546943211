import java.io.IOException;
import java.net.URL;
import java.net.URLClassLoader;
import java.nio.file.Files;
import java.nio.file.Path;
import java.util.ArrayList;
import java.util.List;
import java.util.function.Consumer;
import java.util.regex.Matcher;
import java.util.regex.Pattern;
import javax.tools.JavaCompiler;
import javax.tools.ToolProvider;

/** The example of README.md: it compiles, and each call in it answers the number that begins the comment behind it. */
public final class ReadmeTest {
    private static final Pattern EXAMPLE = Pattern.compile("```java\n(.*?)```", Pattern.DOTALL);
    private static final Pattern CALL = Pattern.compile("(int (\\w+) = )?(mesh\\.\\w+\\(.*\\)); +// (-?\\d+)\\b.*");

    private final List<String> calls = new ArrayList<>();
    private final List<Long> due = new ArrayList<>();

    public static void main(String[] args) throws Exception {
        Path readme = Path.of(System.getProperty("project", ".")).resolve("README.md");
        Matcher example = EXAMPLE.matcher(Files.readString(readme));
        boolean isThere = example.find();
        Due.due("README.md has an example (1: it has)", isThere ? 1 : 0, 1);
        if (isThere) {
            new ReadmeTest().compare(example.group(1));
        }
        Due.finish();
    }

    private void compare(String example) throws Exception {
        StringBuilder body = new StringBuilder();
        for (String line : example.split("\n")) {
            body.append(statement(line)).append('\n');
        }
        long[] answers = new long[calls.size()];
        boolean compiles = run("public final class Example implements java.util.function.Consumer<long[]> {\n"
            + "public void accept(long[] answers) {\n" + body + "}\n}\n", answers);
        Due.due("the example compiles (1: it does)", compiles ? 1 : 0, 1);
        for (int i = 0; i < answers.length; i++) {
            Due.due("README.md: " + calls.get(i), answers[i], due.get(i));
        }
    }

    /** A call keeps its answer as well; any other line stays as it is. */
    private String statement(String line) {
        Matcher call = CALL.matcher(line);
        if (!call.matches()) {
            Due.due("no call without its answer (0: none): " + line, line.contains("mesh.") ? 1 : 0, 0);
            return line;
        }
        String kept = "answers[" + calls.size() + "]";
        calls.add(call.group(3));
        due.add(Long.valueOf(call.group(4)));
        if (call.group(1) == null) {
            return kept + " = " + call.group(3) + ";";
        }
        return call.group(1) + call.group(3) + "; " + kept + " = " + call.group(2) + ";";
    }

    private static boolean run(String source, long[] answers) throws Exception {
        Path folder = Files.createTempDirectory("readme");
        Path file = folder.resolve("Example.java");
        try {
            Files.writeString(file, source);
            JavaCompiler compiler = ToolProvider.getSystemJavaCompiler();
            String[] options = {"-cp", System.getProperty("java.class.path"), "-d", folder.toString(), file.toString()};
            if (compiler.run(null, null, null, options) != 0) {
                return false;
            }
            load(folder).accept(answers);
            return true;
        } finally {
            Files.deleteIfExists(folder.resolve("Example.class"));
            Files.deleteIfExists(file);
            Files.deleteIfExists(folder);
        }
    }

    @SuppressWarnings("unchecked")
    private static Consumer<long[]> load(Path folder) throws IOException, ReflectiveOperationException {
        URL[] places = {folder.toUri().toURL()};
        try (URLClassLoader loader = new URLClassLoader(places, ReadmeTest.class.getClassLoader())) {
            return (Consumer<long[]>) loader.loadClass("Example").getDeclaredConstructor().newInstance();
        }
    }
}
