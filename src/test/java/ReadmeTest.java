import java.io.IOException;
import java.nio.file.Files;
import java.nio.file.Path;
import java.util.HashMap;
import java.util.Map;
import java.util.regex.Matcher;
import java.util.regex.Pattern;

/** README.md's example, line by line: each call answers what the comment behind it says. */
public final class ReadmeTest {
    private static final Pattern BEGIN = Pattern.compile("ReadSide shop = new ReadSide\\((\\d), (\\d)\\); +// .*");
    private static final Pattern LINE = Pattern.compile(
        "(?:\\w+ (?<name>\\w+) = )?shop\\.(?<call>\\w+)\\((?<with>[^)]*)\\); +// (?<due>-?\\d+|true|false|throws \\w+)(?::.*)?");

    private static final Map<String, Long> NAMES = new HashMap<>();

    public static void main(String[] args) throws IOException {
        String[] lines = example(Files.readString(Path.of("README.md")));
        Matcher begin = BEGIN.matcher(lines[0]);
        Check.note(begin.matches(), "README.md: the example begins with " + lines[0]);
        if (begin.matches()) {
            ReadSide shop = new ReadSide(Integer.parseInt(begin.group(1)), Integer.parseInt(begin.group(2)));
            for (int i = 1; i < lines.length; i++) {
                answersAsWritten(shop, lines[i]);
            }
        }
        Check.end();
    }

    private static String[] example(String text) {
        String open = "```java\n";
        int from = text.indexOf(open) + open.length();
        return text.substring(from, text.indexOf("```", from)).split("\n");
    }

    private static void answersAsWritten(ReadSide shop, String line) {
        Matcher parts = LINE.matcher(line);
        if (!parts.matches()) {
            Check.note(false, "README.md: no call with its answer: " + line);
            return;
        }
        String[] with = parts.group("with").isEmpty() ? new String[0] : parts.group("with").split(", ");
        long[] numbers = new long[with.length];
        for (int i = 0; i < with.length; i++) {
            numbers[i] = numberOf(with[i]);
        }
        String got = new FaceCall(parts.group("call"), numbers).on(shop);
        String due = parts.group("due").replace("throws ", "throws.").replace("true", "1").replace("false", "0");
        Check.note(got.equals(due), "README.md: " + line + " answered " + got);
        if (parts.group("name") != null) {
            NAMES.put(parts.group("name"), Long.parseLong(got));
        }
    }

    private static long numberOf(String text) {
        if (text.equals("true") || text.equals("false")) {
            return text.equals("true") ? 1 : 0;
        }
        return NAMES.containsKey(text) ? NAMES.get(text) : Long.parseLong(text);
    }
}
