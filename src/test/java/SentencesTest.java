import java.io.IOException;
import java.util.List;

/** Holds the class against the document sentence by sentence; each has a test of its own. */
public final class SentencesTest {
    public static void main(String[] args) throws IOException {
        Sentences.runAll(List.of(
            CoinSentences.class, LandSentences.class, WorthSentences.class, GuessSentences.class, PaySentences.class,
            OtherSentences.class, ActSentences.class, RefusalSentences.class, PromiseSentences1To19.class,
            PromiseSentences20To41.class));
    }
}
