import java.io.IOException;

/** Stage 2: every sentence of the document's description and promises, each with a test of its own. */
public final class SentencesTest {
    public static void main(String[] args) throws IOException {
        Sentences doc = new Sentences();
        new NetworkSentences(doc).ask();
        new StreamSentences(doc).ask();
        new RoundSentences(doc).ask();
        new ErrorSentences(doc).ask();
        doc.elsewhere("Examples: ");
        doc.elsewhere("1. ");
        doc.elsewhere("The constants:");
        doc.elsewhere("- `NONE = -1`");
        doc.elsewhere("The constructor and the methods follow");
        new BufferSentences(doc).ask();
        new SettingSentences(doc).ask();
        new FloodSentences(doc).ask();
        new DigestSentences(doc).ask();
        doc.end();
    }
}
