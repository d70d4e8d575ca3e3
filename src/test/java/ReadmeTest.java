import java.io.IOException;
import java.lang.reflect.Method;
import java.nio.charset.StandardCharsets;
import java.nio.file.Files;
import java.nio.file.Path;
import java.util.HashMap;
import java.util.List;
import java.util.Map;
import java.util.TreeSet;
import java.util.regex.Matcher;
import java.util.regex.Pattern;
import java.util.stream.Stream;

/** README.md: its example answers what it says, and its tables have all calls, kinds and test files. */
public final class ReadmeTest {
    private static final Check check = new Check();
    private static final Pattern CALL =
            Pattern.compile("(?:int (\\w+) = )?reach\\.(\\w+)\\((.*)\\); +// (\\w+|-\\d+)(?::.*)?");

    /** What the example's own names stand for, by then. */
    private static final Map<String, Object> values = new HashMap<>(Map.of("true", true, "false", false));

    private static Object valueOf(String text) {
        return text.matches("-?\\d+") ? Integer.valueOf(text) : values.get(text);
    }

    private static int constant(String text) throws ReflectiveOperationException {
        return text.matches("-?\\d+") ? Integer.parseInt(text) : LinearReach.class.getField(text).getInt(null);
    }

    private static Method methodOf(String name) {
        for (Method method : LinearReach.class.getMethods()) {
            if (method.getName().equals(name)) {
                return method;
            }
        }
        throw new IllegalArgumentException("README.md calls " + name);
    }

    private static void example(String readme) throws ReflectiveOperationException {
        int from = readme.indexOf("```java\n") + "```java\n".length();
        String[] lines = readme.substring(from, readme.indexOf("```", from)).split("\n");
        check.isTrue("the object is made first", lines[0].equals("LinearReach reach = new LinearReach();"));
        LinearReach reach = new LinearReach();
        for (int i = 1; i < lines.length; i++) {
            Matcher call = CALL.matcher(lines[i]);
            check.isTrue("a call with its answer: " + lines[i], call.matches());
            String[] told = call.group(3).isEmpty() ? new String[0] : call.group(3).split(", ");
            Object[] arguments = Stream.of(told).map(ReadmeTest::valueOf).toArray();
            int got = (Integer) methodOf(call.group(2)).invoke(reach, arguments);
            check.due(lines[i], got, constant(call.group(4)));
            if (call.group(1) != null) {
                values.put(call.group(1), got);
            }
        }
    }

    /** What stands in the first cell of each row that fits, in its order. */
    private static List<String> firstCells(String readme, String pattern) {
        return Pattern.compile("(?m)^\\| " + pattern + " \\|").matcher(readme).results()
                .map(found -> found.group(1)).toList();
    }

    private static String plain(String text) {
        return text.replaceAll("\\s+", " ");
    }

    private static void calls(String readme, String document) {
        Matcher face = Pattern.compile("public int (\\w+\\(.*\\));").matcher(document);
        List<String> due = face.results()
                .map(found -> found.group(1).replaceAll("\\b(int|boolean) ", "")).toList();
        List<String> told = firstCells(readme, "`(\\w+\\(.*?\\))`");
        check.due("calls of the face", due.size(), 16);
        check.isTrue("the calls are those of the face: " + told, told.equals(due));
    }

    private static void kinds(String readme, String document) {
        List<String> told = firstCells(readme, "(\\d [A-Z ]+)");
        check.due("kinds", told.size(), 10);
        for (int kind = 0; kind < told.size(); kind++) {
            check.isTrue(told.get(kind) + " is kind " + kind, told.get(kind).startsWith(kind + " "));
            check.isTrue(told.get(kind) + " is in the document", plain(document).contains(told.get(kind) + ": "));
        }
    }

    /** All files, and no others; a test is in the first table, what is none in the second. */
    private static void files(String readme, Path folder) throws IOException {
        TreeSet<String> due = new TreeSet<>();
        try (Stream<Path> files = Files.list(folder)) {
            files.forEach(file -> due.add(file.getFileName().toString().replace(".java", "")));
        }
        TreeSet<String> told = new TreeSet<>();
        int second = readme.indexOf("| no test itself |");
        Matcher row = Pattern.compile("(?m)^\\| (`[A-Z]\\w+`(?:, `\\w+`)*) \\|").matcher(readme);
        while (row.find()) {
            for (String name : row.group(1).replace("`", "").split(", ")) {
                told.add(name);
                check.isTrue(name + " is in its table", name.endsWith("Test") == row.start() < second);
            }
        }
        check.isTrue("the files are " + due + ", told are " + told, told.equals(due));
    }

    public static void main(String[] args) throws IOException, ReflectiveOperationException {
        Path root = Path.of(System.getProperty("root"));
        String readme = Files.readString(root.resolve("README.md"), StandardCharsets.UTF_8);
        String document = Files.readString(Path.of(System.getProperty("document")), StandardCharsets.UTF_8);
        example(readme);
        calls(readme, document);
        kinds(readme, document);
        files(readme, root.resolve("src/test/java"));
        check.finish();
    }
}
