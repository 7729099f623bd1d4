import java.io.IOException;
import java.io.UncheckedIOException;
import java.nio.file.Files;
import java.nio.file.Path;
import java.util.List;
import java.util.regex.Pattern;
import java.util.stream.Collectors;

/** The document, cut into sections (0 the Terms, 1 to 35 the promises) and these into sentences. */
final class Document {
    static final int TERMS = 0;
    static final int LAST_PROMISE = 35;

    private static final String TEXT = load();
    /** A stop that ends a sentence: none of two in a row, and none within brackets' end. */
    private static final Pattern STOP = Pattern.compile("(?<!\\.)\\.(?=\\s|$)");

    private Document() {
    }

    private static String load() {
        try {
            return Files.readString(Path.of("../shared/DOC.md"));
        } catch (IOException e) {
            throw new UncheckedIOException(e);
        }
    }

    static List<String> sentences(int section) {
        return STOP.splitAsStream(section(section))
            .map(String::trim)
            .filter(s -> !s.matches("\\d*"))
            .collect(Collectors.toList());
    }

    /** The sentence that a quote is, or else the first one that it is a part of; null if there is none. */
    static String sentenceOf(int section, String quote) {
        List<String> sentences = sentences(section);
        if (sentences.contains(quote)) {
            return quote;
        }
        return sentences.stream().filter(s -> s.contains(quote)).findFirst().orElse(null);
    }

    /** The call of a promise, as it stands there. */
    static String call(int promise) {
        return between("## Promise " + promise + ": ", "\n## ").replaceFirst("(?s)^[^`]*`([^`]*)`: .*$", "$1");
    }

    private static String section(int section) {
        if (section == TERMS) {
            return plain(between("## Terms\n", "\nAhead of the calls"));
        }
        // The call itself, with which each promise begins, is no sentence.
        return plain(between("## Promise " + section + ": ", "\n## ")).replaceFirst("^[^`]*`[^`]*`: ", "");
    }

    private static String between(String begin, String end) {
        int from = TEXT.indexOf(begin) + begin.length();
        return TEXT.substring(from, TEXT.indexOf(end, from));
    }

    private static String plain(String text) {
        return text.replaceAll("```(text)?", " ").replaceAll("\\s+", " ").trim();
    }
}
