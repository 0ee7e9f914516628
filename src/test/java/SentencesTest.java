import java.io.IOException;

/** Each sentence of the document that names a boundary case, with a test of its own. */
public final class SentencesTest {
    public static void main(String[] args) throws IOException {
        Sentences sentences = new Sentences();
        new TermSentences(sentences).all();
        new ChannelSentences(sentences).all();
        new TextSentences(sentences).all();
        new WaterSentences(sentences).all();
        new PlanSentences(sentences).all();
        new MeetingSentences(sentences).all();
        new SheetSentences(sentences).all();
        sentences.finish();
    }
}
