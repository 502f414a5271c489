import java.io.IOException;

/** Every sentence of the document in its turn; run from the project's folder. */
public final class SentencesTest {
    private SentencesTest() {
    }

    public static void main(String[] args) throws IOException {
        Book book = new Book();
        SettingsSentences.run(book);
        KeysSentences.run(book);
        TickSentences.run(book);
        MatrixSentences.run(book);
        AnswersSentences.run(book);
        ErrorsSentences.run(book);
        book.end();
    }
}
