import java.io.IOException;
import java.nio.file.Path;

/** Every sentence of the document's Terms and promises: a test of its own, that quotes it. */
public final class BoundaryTest {
    public static void main(String[] args) throws IOException {
        Due due = new Due();
        Sentences document = new Sentences(Path.of("../shared/DOC.md"), due);
        new RefusalBoundaries(document, due).all();
        new SheetBoundaries(document, due).all();
        new HouseBoundaries(document, due).all();
        new ActBoundaries(document, due).all();
        new LeaveBoundaries(document, due).all();
        new SumBoundaries(document, due).all();
        new CaseBoundaries(document, due).all();
        new SightBoundaries(document, due).all();
        new AskBoundaries(document, due).all();
        document.allQuoted();
        due.end();
    }
}
