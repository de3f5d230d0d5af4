import java.io.IOException;
import java.io.UncheckedIOException;
import java.nio.file.Files;
import java.nio.file.Path;

/**
 * The words of ../shared/DOC.md, without regard to where its lines end. Where it isn't at hand,
 * the quotes from it can't be looked at, but the class can be tested all the same.
 */
final class Document {
    private static final Path FILE = Path.of("../shared/DOC.md");
    private static final String TEXT = isThere() ? read(FILE) : "";

    private Document() {
    }

    static boolean isThere() {
        return Files.exists(FILE);
    }

    static boolean has(String words) {
        return onOneLine(TEXT).contains(words);
    }

    /** What its Terms and promises say, without headings and without the methods' signatures. */
    static String termsAndPromises() {
        int start = TEXT.indexOf("\n## Terms");
        int end = TEXT.indexOf("\n## Not promised");
        return onOneLine(TEXT.substring(start, end)
            .replaceAll("(?m)^(##|```).*$", "")
            .replaceAll("(?m)^`[^`]*`:", ""));
    }

    private static String read(Path file) {
        try {
            return Files.readString(file);
        } catch (IOException e) {
            throw new UncheckedIOException(e);
        }
    }

    private static String onOneLine(String text) {
        return text.replaceAll("\\s+", " ").trim();
    }
}
