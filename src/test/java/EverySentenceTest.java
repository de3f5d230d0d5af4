import java.io.IOException;
import java.nio.file.DirectoryStream;
import java.nio.file.Files;
import java.nio.file.Path;
import java.util.ArrayList;
import java.util.List;
import java.util.regex.Matcher;
import java.util.regex.Pattern;

/**
 * Every sentence of the document's Terms and promises is quoted by a test, so that none is
 * forgotten: what is left of the document when all quotes are taken out of it must be nothing.
 */
public final class EverySentenceTest {
    private static final Path TESTS = Path.of("src/test/java");
    private static final Pattern QUOTE =
        Pattern.compile("\\.sentence\\(((?:\\s*\\+?\\s*\"(?:[^\"\\\\]|\\\\.)*\")+)\\)");
    private static final Pattern PART = Pattern.compile("\"((?:[^\"\\\\]|\\\\.)*)\"");

    public static void main(String[] args) throws IOException {
        if (!Document.isThere()) {
            System.out.println("Every sentence: not looked at, for the document isn't there");
            return;
        }
        String left = Document.termsAndPromises();
        List<String> quotes = quotes();
        // Long ones first: a short one may stand in a long one, too.
        quotes.sort((a, b) -> b.length() - a.length());
        for (String quote : quotes) {
            left = left.replace(quote, "");
        }
        System.out.println("Every sentence: " + quotes.size() + " quotes; not quoted: '" + left.trim() + "'");
        System.exit(left.isBlank() && !quotes.isEmpty() ? 0 : 1);
    }

    private static List<String> quotes() throws IOException {
        List<String> found = new ArrayList<>();
        try (DirectoryStream<Path> files = Files.newDirectoryStream(TESTS, "*.java")) {
            for (Path file : files) {
                Matcher quote = QUOTE.matcher(Files.readString(file));
                while (quote.find()) {
                    found.add(joined(quote.group(1)));
                }
            }
        }
        return found;
    }

    private static String joined(String javaStrings) {
        StringBuilder text = new StringBuilder();
        Matcher part = PART.matcher(javaStrings);
        while (part.find()) {
            text.append(part.group(1).replace("\\\"", "\""));
        }
        return text.toString();
    }
}
