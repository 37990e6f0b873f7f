import java.io.IOException;

/** Each sentence of the document that names a boundary case, with a test that names the promise and the sentence. */
public final class BoundaryTest {
    private BoundaryTest() {
    }

    public static void main(String[] args) throws IOException {
        Check check = new Check();
        Sentences sentences = new Sentences(check);
        TermsOfTexts.ask(sentences);
        TermsOfStates.ask(sentences);
        TermsOfWouldBe.ask(sentences);
        TermsOfCenturies.ask(sentences);
        EdgesOfTexts.ask(sentences);
        EdgesOfActs.ask(sentences);
        EdgesOfWouldBe.ask(sentences);
        EdgesOfGlances.ask(sentences);
        sentences.end();
        check.end("BoundaryTest");
    }
}
