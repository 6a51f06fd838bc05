import java.io.IOException;

/** Each sentence of the document has a test of its own, and none is left out. Run it from the project's directory. */
public final class SentencesTest {
    public static void main(String[] args) throws IOException {
        Checks checks = new Checks();
        Document document = new Document(checks);
        new GeneralSentences(document, checks).testAll();
        new ClockSentences(document, checks).testAll();
        new LeapSentences(document, checks).testAll();
        new ServerSentences(document, checks).testAll();
        new SelectionSentences(document, checks).testAll();
        new DisciplineSentences(document, checks).testAll();
        document.end();
        checks.end("SentencesTest");
    }
}
