/** Every sentence of the document, each quoted and tested; fails if one has no test. */
public final class SentencesTest {
    public static void main(String[] args) throws Exception {
        Sentences s = new Sentences();
        new RowSentences(s).run();
        new LikingSentences(s).run();
        new WeekSentences(s).run();
        new WorthSentences(s).run();
        new SheetSentences(s).run();
        new ImageSentences(s).run();
        s.end();
    }
}
