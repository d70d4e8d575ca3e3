import java.io.IOException;
import java.nio.charset.StandardCharsets;
import java.nio.file.Files;
import java.nio.file.Path;
import java.util.Map;
import java.util.TreeMap;
import java.util.TreeSet;
import java.util.regex.Matcher;
import java.util.regex.Pattern;

/** What of LANGUAGE.md can be seen in the program's text. */
public final class LanguageTest {
    private static final Check check = new Check();
    private static final String[] FORBIDDEN = {
        "\\bimport\\b", "\\bpackage\\b", "\\bthrow\\b", "\\bthrows\\b", "\\btry\\b", "\\bcatch\\b",
        "\\bsynchronized\\b", "\\bassert\\b", "\\bprotected\\b", "->", "::", "\\bhashCode\\b",
        "\\btoString\\b", "Exact\\b", "\\bjava\\.", "\\bstatic\\s*\\{", "@"};
    private static final Pattern LIBRARY = Pattern.compile("\\b(Math|Long|Integer|System)\\.(\\w+)");
    private static final String ALLOWED = " max min abs bitCount floorDiv numberOfTrailingZeros"
            + " numberOfLeadingZeros arraycopy ";
    private static final Pattern HEAD =
            Pattern.compile("^( {4}| {8})(?!if |for |while |switch )(?=[A-Za-z])[^=;]*?\\b(\\w+)\\((.*)\\) \\{$");
    private static final Pattern CALL = Pattern.compile("(\\w+)\\(");
    private static final int LONGEST_METHOD = 60;
    private static final int DEEPEST_CALLS = 8;

    /** By a method's name, the methods of the file that it calls. */
    private static final Map<String, TreeSet<String>> called = new TreeMap<>();

    private static String withoutComments(String text) {
        return text.replaceAll("(?s)/\\*.*?\\*/", "").replaceAll("//[^\n]*", "");
    }

    private static void words(String code) {
        for (String word : FORBIDDEN) {
            check.isTrue("no " + word, !Pattern.compile(word).matcher(code).find());
        }
        Matcher used = LIBRARY.matcher(code);
        while (used.find()) {
            check.isTrue(used.group(), ALLOWED.contains(" " + used.group(2) + " "));
        }
    }

    /** A static field is a constant; only the table of the kinds is an array. */
    private static void statics(String code) {
        for (String line : code.split("\n")) {
            if (line.matches(".*\\bstatic\\b.*=.*")) {
                check.isTrue(line.strip(), line.matches(".*\\bstatic final int(\\[\\])? .*"));
            }
        }
    }

    private static void methods(String[] lines) {
        for (int i = 0; i < lines.length; i++) {
            Matcher head = HEAD.matcher(lines[i]);
            if (head.matches()) {
                int length = 1;
                while (i + length < lines.length && !lines[i + length].equals(head.group(1) + "}")) {
                    addCalls(head.group(2), lines[i + length]);
                    length++;
                }
                check.isTrue(lines[i].strip() + " is short", length < LONGEST_METHOD);
                check.isTrue(lines[i].strip() + " has few parameters", head.group(3).split(",").length <= 7);
            }
        }
    }

    private static void addCalls(String caller, String line) {
        TreeSet<String> names = called.computeIfAbsent(caller, key -> new TreeSet<>());
        Matcher call = CALL.matcher(line);
        while (call.find()) {
            names.add(call.group(1));
        }
        // Recursion is bound by a rule of its own.
        names.remove(caller);
    }

    /** How many calls stand open at once below this one, and it: methods of the same name are taken as one. */
    private static int depth(String method) {
        int deepest = 0;
        for (String next : called.getOrDefault(method, new TreeSet<>())) {
            if (called.containsKey(next)) {
                deepest = Math.max(deepest, depth(next));
            }
        }
        return deepest + 1;
    }

    private static void depths() {
        check.isTrue("run() calls others", depth("run") > 3);
        for (String method : called.keySet()) {
            check.isTrue(method + " goes " + depth(method) + " deep", depth(method) <= DEEPEST_CALLS);
        }
    }

    public static void main(String[] args) throws IOException {
        String text = Files.readString(Path.of(System.getProperty("source")), StandardCharsets.US_ASCII);
        String code = withoutComments(text);
        words(code);
        statics(code);
        methods(code.split("\n"));
        depths();
        check.finish();
    }
}
