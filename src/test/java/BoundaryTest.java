/** Each sentence of the document that names a boundary has a test, and none is left out. */
public final class BoundaryTest extends Answers {
    public static void main(String[] args) {
        CacheBoundaries.all();
        HelperBoundaries.all();
        TextBoundaries.all();
        PromiseBoundaries.all();
        everySentenceHasATest(0, 26);
        CHECKS.close("BoundaryTest");
    }
}
