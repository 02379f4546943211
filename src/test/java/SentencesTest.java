import java.io.IOException;
import java.nio.file.Files;
import java.nio.file.Path;
import java.util.HashSet;
import java.util.Set;
import java.util.regex.Matcher;
import java.util.regex.Pattern;

/** The list src/test/SENTENCES.md names tests that there are, and each promise has a line in it. */
public final class SentencesTest {
    private static final Pattern NAME = Pattern.compile("`(\\w+Test)\\.(\\w+)`");

    public static void main(String[] args) throws IOException {
        Path project = Path.of(System.getProperty("project", "."));
        String list = Files.readString(project.resolve("src/test/SENTENCES.md"));
        Matcher matcher = NAME.matcher(list);
        while (matcher.find()) {
            String test = matcher.group(1);
            String source = Files.readString(project.resolve("src/test/java/" + test + ".java"));
            Due.due(matcher.group() + " is there and called", occurrences(source, matcher.group(2) + "(") > 1 ? 1 : 0, 1);
        }
        Set<Integer> promises = new HashSet<>();
        Matcher lines = Pattern.compile("\\| Promise (\\d+) \\|").matcher(list);
        while (lines.find()) {
            promises.add(Integer.parseInt(lines.group(1)));
        }
        for (int promise = 1; promise <= 23; promise++) {
            Due.due("promise " + promise + " has a line", promises.contains(promise) ? 1 : 0, 1);
        }
        Due.finish();
    }

    private static int occurrences(String text, String part) {
        int found = 0;
        for (int at = text.indexOf(part); at >= 0; at = text.indexOf(part, at + 1)) {
            found++;
        }
        return found;
    }
}
