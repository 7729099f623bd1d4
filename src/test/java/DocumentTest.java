import java.io.IOException;
import java.nio.file.Files;
import java.nio.file.Path;
import java.util.Set;
import java.util.TreeSet;
import java.util.regex.Matcher;
import java.util.regex.Pattern;
import java.util.stream.Stream;

/** Every sentence of the Terms and of each promise has a test that names it. */
public final class DocumentTest extends Checks {
    private static final Pattern NAMED = Pattern.compile("\\bsentence\\((\\d+), \"((?:[^\"\\\\]|\\\\.)*)\"\\)");
    private static final Path TESTS = Path.of("src/test/java");

    public static void main(String[] args) {
        run(DocumentTest.class);
    }

    static void everySentenceIsNamed() throws IOException {
        Set<String> named = named();
        for (int section = Document.TERMS; section <= Document.LAST_PROMISE; section++) {
            due("section " + section + " is empty", Document.sentences(section).isEmpty() ? 1 : 0, 0);
            for (String s : Document.sentences(section)) {
                due("a test of " + section + " '" + s + "'", named.contains(section + s) ? 1 : 0, 1);
            }
        }
    }

    private static Set<String> named() throws IOException {
        Set<String> named = new TreeSet<>();
        try (Stream<Path> files = Files.list(TESTS)) {
            for (Path file : files.filter(f -> f.toString().endsWith("Test.java")).toList()) {
                Matcher m = NAMED.matcher(Files.readString(file));
                while (m.find()) {
                    int section = Integer.parseInt(m.group(1));
                    named.add(section + Document.sentenceOf(section, m.group(2)));
                }
            }
        }
        return named;
    }
}
