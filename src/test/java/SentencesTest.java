import java.io.IOException;

/** Promises 1 to 41: every sentence of the document by itself, with its edges. */
public final class SentencesTest {
    public static void main(String[] args) throws IOException {
        TermSentences.go();
        RowSentences.go();
        TextSentences.go();
        WaySentences.go();
        RaidSentences.go();
        StandSentences.go();
        PaySentences.go();
        RoundSentences.go();
        AskSentences.go();
        Sentence.endOfTheDocument();
        Checks.end();
    }
}
