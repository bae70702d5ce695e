/** Each sentence of the document that names a boundary case, by its promise and its words. */
public final class BoundaryTest {
    private BoundaryTest() {
    }

    public static void main(String[] args) {
        Sentences doc = new Sentences();
        new TextBoundaries(doc).run();
        new LookBoundaries(doc).run();
        new ActBoundaries(doc).run();
        new RecordBoundaries(doc).run();
        new TrialBoundaries(doc).run();
        new CountBoundaries(doc).run();
        doc.finish();
    }
}
