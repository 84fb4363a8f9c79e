import java.io.IOException;
import java.nio.file.Files;
import java.nio.file.Path;

/** Promises 1 to 40, sentence by sentence: each of the document's has a test of its own, with the edges that it names. */
public final class EdgesTest {
    public static void main(String[] args) throws IOException {
        Checks c = new Checks("edges");
        Sentences d = new Sentences(c, Files.readString(Path.of("../shared/DOC.md")));
        EdgesOfRefusals.all(d);
        EdgesOfTelling.all(d);
        EdgesOfOrders.all(d);
        EdgesOfNarrow.all(d);
        EdgesOfSteps.all(d);
        EdgesOfLines.all(d);
        EdgesOfMaker.all(d);
        EdgesOfPairs.all(d);
        EdgesOfSheets.all(d);
        d.end();
        c.end();
    }
}
