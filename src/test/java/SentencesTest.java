import java.io.IOException;
import java.nio.file.Path;

/** Promises 1 to 17 and the terms: each sentence of the document that names an edge has a test of its own. */
public final class SentencesTest {
    private SentencesTest() {
    }

    public static void main(String[] args) throws IOException {
        Check check = new Check();
        Sentences sentences = new Sentences(check, Path.of(System.getProperty("document")));
        new TermsSentences(check).addTo(sentences);
        new RoundSentences(check).addTo(sentences);
        new AnswerSentences(check).addTo(sentences);
        new BuildingSentences(check).addTo(sentences);
        new RunSentences(check).addTo(sentences);
        new StepSentences(check).addTo(sentences);
        new PlanSentences(check).addTo(sentences);
        sentences.allHaveTests();
        check.finish();
    }
}
