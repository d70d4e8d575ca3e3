import java.io.IOException;
import java.nio.charset.StandardCharsets;
import java.nio.file.Files;
import java.nio.file.Path;
import java.util.regex.Matcher;
import java.util.regex.Pattern;

/** What of LANGUAGE.md can be seen in the program's text. */
public final class LanguageTest {
    private static final Check check = new Check();
    private static final String[] FORBIDDEN = {
        "\\bimport\\b", "\\bpackage\\b", "\\bthrow\\b", "\\bthrows\\b", "\\btry\\b", "\\bcatch\\b",
        "\\bsynchronized\\b", "\\bassert\\b", "\\bprotected\\b", "->", "::", "\\bhashCode\\b",
        "\\btoString\\b", "Exact\\b", "\\bjava\\.", "\\bstatic\\s*\\{", "@"};
    private static final Pattern LIBRARY = Pattern.compile("\\b(Math|Long|Integer|System)\\.(\\w+)");
    private static final String ALLOWED = " max min abs bitCount floorDiv numberOfTrailingZeros"
            + " numberOfLeadingZeros arraycopy ";
    private static final int LONGEST_METHOD = 60;

    private static String withoutComments(String text) {
        return text.replaceAll("(?s)/\\*.*?\\*/", "").replaceAll("//[^\n]*", "");
    }

    private static void words(String code) {
        for (String word : FORBIDDEN) {
            check.isTrue("no " + word, !Pattern.compile(word).matcher(code).find());
        }
        Matcher used = LIBRARY.matcher(code);
        while (used.find()) {
            check.isTrue(used.group(), ALLOWED.contains(" " + used.group(2) + " "));
        }
    }

    /** A static field is a constant; only the table of the kinds is an array. */
    private static void statics(String code) {
        for (String line : code.split("\n")) {
            if (line.matches(".*\\bstatic\\b.*=.*")) {
                check.isTrue(line.strip(), line.matches(".*\\bstatic final int(\\[\\])? .*"));
            }
        }
    }

    private static void lengths(String text) {
        String[] lines = text.split("\n");
        Pattern head = Pattern.compile("^( {4}| {8})[a-z][^=;]*\\((.*)\\) \\{$");
        for (int i = 0; i < lines.length; i++) {
            Matcher method = head.matcher(lines[i]);
            if (method.matches()) {
                int length = 1;
                while (i + length < lines.length && !lines[i + length].equals(method.group(1) + "}")) {
                    length++;
                }
                check.isTrue(lines[i].strip() + " is short", length < LONGEST_METHOD);
                check.isTrue(lines[i].strip() + " has few parameters", method.group(2).split(",").length <= 7);
            }
        }
    }

    public static void main(String[] args) throws IOException {
        String text = Files.readString(Path.of(System.getProperty("source")), StandardCharsets.US_ASCII);
        String code = withoutComments(text);
        words(code);
        statics(code);
        lengths(text);
        check.finish();
    }
}
