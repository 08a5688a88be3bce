/** Each sentence of the document that names a boundary case has a test of its own: this runs them all. */
public final class BoundaryTest {
    public static void main(String[] args) throws Exception {
        Sentences sentences = new Sentences();
        new TextBounds(sentences).run();
        new JourneyBounds(sentences).run();
        new QuestionBounds(sentences).run();
        sentences.end();
        Check.end();
    }
}
