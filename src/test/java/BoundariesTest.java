import java.io.IOException;

/**
 * Each sentence of the document that names a boundary case, with a test of its own. A sentence that
 * stands in the terms or in a promise and is named by no test here counts as a failure.
 */
public final class BoundariesTest {
    public static void main(String[] args) throws IOException {
        Checks checks = new Checks();
        Document document = new Document(checks);
        new PointBoundaries(checks, document).run();
        new WishBoundaries(checks, document).run();
        new PlaceBoundaries(checks, document).run();
        new VariantBoundaries(checks, document).run();
        new BodyBoundaries(checks, document).run();
        new RefusedCalls(checks, document).run();
        document.nothingIsLeft();
        checks.end();
    }
}
