import java.io.IOException;

/** Each sentence of the document, with the boundary cases that it names: a test of its own for each. */
public final class SentencesTest {
    public static void main(String[] args) throws IOException {
        Sentence.readDocument();
        TermSentences.test();
        ProgramSentences.test();
        RoundSentences.test();
        LineSentences.test();
        AnswerSentences.test();
        BuildSentences.test();
        RunSentences.test();
        ReadSentences.test();
        Sentence.endAll();
        Due.end();
    }
}
