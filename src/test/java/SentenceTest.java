import java.io.IOException;

/** For each sentence of the document a test of its own, named by the sentence; most of them name an edge. */
public final class SentenceTest {
    public static void main(String[] args) throws IOException {
        Sentences s = new Sentences("SentenceTest");
        TermSentences.all(s);
        TextSentences.all(s);
        CallSentences.all(s);
        LookSentences.all(s);
        ShareSentences.all(s);
        s.end();
    }
}
