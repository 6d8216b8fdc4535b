import java.io.IOException;
import java.nio.file.Path;

/** Each sentence of the document that names a boundary, by a test of its own that says which one it holds. */
public final class BoundaryTest {
    public static void main(String[] args) throws IOException {
        TermBoundaries.hold();
        RefusalBoundaries.hold();
        CircuitBoundaries.hold();
        ElementBoundaries.hold();
        TimeBoundaries.hold();
        FractionBoundaries.hold();
        SpanBoundaries.hold();
        Sentences.lookUp(Path.of(System.getProperty("project.root"), "../shared/DOC.md"));
        Check.end();
    }
}
