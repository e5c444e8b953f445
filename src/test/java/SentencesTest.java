import java.io.IOException;

/** Every sentence of the document has a test that stands under it, those that name a boundary one for each side. */
public final class SentencesTest {
    public static void main(String[] args) throws IOException {
        Sentences sentences = new Sentences("SentencesTest");
        new TermsSentences(sentences).all();
        new ExceptionSentences(sentences).all();
        new PeopleSentences(sentences).all();
        new WorkshopSentences(sentences).all();
        new BankSentences(sentences).all();
        sentences.end();
    }
}
