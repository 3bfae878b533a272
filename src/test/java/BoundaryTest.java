import java.io.IOException;
import java.nio.file.Path;

/**
 * The document sentence by sentence: each that names a boundary (too small, too large, empty, full, a
 * wrap-around, a refused call) is quoted, and the class is called at that boundary.
 */
public final class BoundaryTest {
    private BoundaryTest() {
    }

    public static void main(String[] args) throws IOException {
        TextBoundaries.run();
        PlaitBoundaries.run();
        StockBoundaries.run();
        RefusalBoundaries.run();
        Sentences.compareWith(Path.of("..", "shared", "DOC.md"));
        Check.end("BoundaryTest");
    }
}
