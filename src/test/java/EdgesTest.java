import java.io.IOException;
import java.nio.file.Path;

/** Each sentence of the document that names a boundary, by tests of its own. */
public final class EdgesTest {
    private static final String DOCUMENT = "../shared/DOC.md";

    private EdgesTest() {
    }

    public static void main(String[] args) throws IOException {
        Edges e = new Edges();
        TermEdges.addTo(e);
        DeliveryEdges.addTo(e);
        HouseEdges.addTo(e);
        RuleEdges.addTo(e);
        LetterEdges.addTo(e);
        DayEdges.addTo(e);
        CrossEdges.addTo(e);
        e.run();
        e.checkQuotes(Path.of(args.length > 0 ? args[0] : DOCUMENT));
        if (e.finish("EdgesTest") > 0) {
            System.exit(1);
        }
    }
}
