import java.io.IOException;

/** For each sentence of the document that names a boundary case a test of its own, that quotes it. */
public final class EdgeTest {
    public static void main(String[] args) throws IOException {
        Edge.openDocument();
        EdgeOfTerms.all();
        EdgeOfText.all();
        EdgeOfWorks.all();
        EdgeOfTale.all();
        EdgeOfDays.all();
        EdgeOfHost.all();
        if (Edge.end() != 0) {
            System.exit(1);
        }
    }
}
