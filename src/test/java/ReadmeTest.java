import java.io.IOException;
import java.nio.file.Files;
import java.nio.file.Path;
import java.util.HashMap;
import java.util.Map;
import java.util.regex.Matcher;
import java.util.regex.Pattern;

/** The calls of README.md's example answer what stands behind them. */
public final class ReadmeTest {
    private static final Pattern CALL =
        Pattern.compile("(?:int (\\w+) = )?yard\\.(\\w+\\(.*?\\)); *// (?:throws (\\w+):|(-?\\d+):)?.*");

    public static void main(String[] args) throws IOException {
        Yard yard = Yard.ofClass();
        Map<String, String> names = new HashMap<>();
        int calls = 0;
        int wrong = 0;
        Matcher found = CALL.matcher(example());
        while (found.find()) {
            String call = found.group(2);
            for (Map.Entry<String, String> name : names.entrySet()) {
                call = call.replaceAll("\\b" + name.getKey() + "\\b", name.getValue());
            }
            String due = found.group(3) != null ? "throws." + found.group(3)
                : found.group(4) != null ? found.group(4) : "";
            String got = new Call(call).answerOn(yard);
            calls++;
            if (!got.equals(due)) {
                wrong++;
                System.out.println(found.group() + " answered " + got);
            }
            if (found.group(1) != null) {
                names.put(found.group(1), got);
            }
        }
        System.out.println("README.md: " + calls + " calls, " + wrong + " wrong");
        System.exit(wrong == 0 && calls > 0 ? 0 : 1);
    }

    private static String example() throws IOException {
        String text = Files.readString(Path.of("README.md"));
        int start = text.indexOf("```java");
        return text.substring(start, text.indexOf("```", start + 3));
    }
}
