import java.io.IOException;
import java.nio.file.Files;
import java.nio.file.Path;
import java.util.regex.Matcher;
import java.util.regex.Pattern;

/** Those rules of LANGUAGE.md that can be seen in the text of the class. */
public final class LanguageTest {
    private static final String THROWN = "throw new (IllegalStateException|IllegalArgumentException"
        + "|IndexOutOfBoundsException)\\(\"[^\"]*\"\\);";
    private static final Pattern METHOD = Pattern.compile(
        "^( +)(?:public |private |static |final )*(?:[\\w\\[\\]]+ )?\\w+\\(([^()]*)\\)[^;{]*\\{$", Pattern.MULTILINE);

    public static void main(String[] args) throws IOException {
        String source = withoutComments(Files.readString(Path.of("src/main/java/ReadSide.java")));
        holdsNone(source, "rule 2", "->|::|\\bnew \\w+\\([^()]*\\) \\{");
        holdsNone(source, "rule 4", "\\bimport\\b|\\bpackage\\b|\\bjava\\.|\\w+Exact\\b");
        holdsNone(source, "rule 5", "\\bstatic (?!final)[\\w\\[\\]]+ \\w+( =|;|,)|\\bstatic \\{");
        holdsNone(source, "rule 6", "\\b(try|catch|finally|synchronized|assert|instanceof)\\b");
        Check.note(count(source, "\\bthrow\\b") == count(source, THROWN), "rule 6: something else is thrown");
        divisorsAreLookedAt(source);
        methodsAreShort(source);
        Check.note(count(source, "\\bclass \\w+ \\{") <= 12, "rule 11: too many classes");
        Check.end();
    }

    private static String withoutComments(String text) {
        return text.replaceAll("(?s)/\\*.*?\\*/", "").replaceAll("//[^\n]*", "");
    }

    private static int count(String text, String form) {
        return (int) Pattern.compile(form).matcher(text).results().count();
    }

    private static void holdsNone(String source, String rule, String form) {
        Matcher found = Pattern.compile(form).matcher(source);
        Check.note(!found.find(), rule + " is broken: " + (found.reset().find() ? found.group() : ""));
    }

    /** Rule 7: "a divisor [is looked at] before it divides": in the same line, so that it can be seen there. */
    private static void divisorsAreLookedAt(String source) {
        Pattern division = Pattern.compile("[%/]=?\\s*(\\w+)");
        for (String line : source.split("\n")) {
            Matcher found = division.matcher(line.replaceAll("\"[^\"]*\"", "\"\""));
            while (found.find()) {
                Check.note(line.contains(found.group(1) + " > 0 ?"), "rule 7: a divisor is not looked at: " + line);
            }
        }
    }

    /** Rule 11: "at most seven parameters", "some sixty lines". */
    private static void methodsAreShort(String source) {
        Matcher method = METHOD.matcher(source);
        int methods = 0;
        while (method.find()) {
            methods++;
            String rest = source.substring(method.end());
            int end = rest.indexOf("\n" + method.group(1) + "}");
            Check.note(end >= 0 && count(rest.substring(0, end), "\n") <= 60, "rule 11: too long: " + method.group());
            Check.note(method.group(2).split(",").length <= 7, "rule 11: too many parameters: " + method.group());
        }
        Check.note(methods > 50, "only " + methods + " methods were found");
    }
}
