import java.io.IOException;

/** Every sentence of the terms and the promises, each with answers that would not be due if it were broken. */
public final class SentenceTest {
    public static void main(String[] args) throws IOException {
        Held.open();
        RowSentences.all();
        ToldSentences.all();
        DoneSentences.all();
        ForetoldSentences.all();
        AskedSentences.all();
        System.exit(Held.close() ? 0 : 1);
    }
}
