import java.io.IOException;
import java.nio.charset.StandardCharsets;
import java.nio.file.Files;
import java.nio.file.Path;
import java.util.BitSet;
import java.util.LinkedHashMap;
import java.util.Map;
import java.util.regex.Matcher;
import java.util.regex.Pattern;

/** Ties each test to the document's words that it tests, and tells the sentences that have no test. */
final class Sentences {
    /** A point or semicolon that ends something; the points of '-32 .. 31' do not. */
    private static final Pattern END = Pattern.compile("(?<=[^.\\s])[.;](?=[\\s)]|$)");
    private static final String[] BOUND_BY_TESTS = {"What it is", "Terms", "Promise "};

    private final Check check;
    private final Map<String, String> sections = new LinkedHashMap<>();
    private final Map<String, BitSet> quoted = new LinkedHashMap<>();

    Sentences(Check check, Path document) throws IOException {
        this.check = check;
        for (String section : Files.readString(document, StandardCharsets.UTF_8).split("(?m)^## ")) {
            int end = section.indexOf('\n');
            String title = end < 0 ? section : section.substring(0, end).split(":")[0].strip();
            for (String bound : BOUND_BY_TESTS) {
                if (title.startsWith(bound)) {
                    sections.put(title, plain(section.substring(end)));
                    quoted.put(title, new BitSet());
                }
            }
        }
    }

    private static String plain(String text) {
        return text.replaceAll("```\\w*|=====+ \\d+ ", " ").replaceAll("\\s+", " ").strip();
    }

    /** The words stand once in that section, and the test has answers to look at. */
    void hold(String section, String words, Runnable test) {
        check.setAbout(section + ", '" + words + "'");
        quote(section, words);
        int before = check.answers();
        try {
            test.run();
        } catch (RuntimeException thrown) {
            // Told as a wrong answer of this sentence, so that the others are looked at, too.
            check.isTrue("no call throws " + thrown, false);
        }
        check.isTrue("there are answers", check.answers() > before);
        check.setAbout("");
    }

    /** Words that only say what others say more closely. */
    void sayNoMore(String section, String words) {
        check.setAbout(section + ", '" + words + "'");
        quote(section, words);
        check.setAbout("");
    }

    private void quote(String section, String words) {
        String text = sections.getOrDefault(section, "");
        int at = text.indexOf(words);
        check.isTrue("the words are there once", at >= 0 && text.indexOf(words, at + 1) < 0);
        if (at >= 0) {
            quoted.get(section).set(at, at + words.length());
        }
    }

    /** Each sentence, and each half of one that a semicolon parts, has words that were quoted. */
    void allHaveTests() {
        check.due("sections", sections.size(), 2 + 17);
        for (Map.Entry<String, String> section : sections.entrySet()) {
            String text = section.getValue();
            Matcher end = END.matcher(text);
            int from = 0;
            while (from < text.length()) {
                int to = end.find() ? end.end() : text.length();
                String sentence = text.substring(from, to).strip();
                boolean isTested = !quoted.get(section.getKey()).get(from, to).isEmpty();
                check.isTrue(section.getKey() + ": a test of '" + sentence + "'", isTested || sentence.length() < 2);
                from = to;
            }
        }
    }
}
