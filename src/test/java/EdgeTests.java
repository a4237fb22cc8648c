/** Runs a test of its own for each sentence of the document that names an edge, by its sections. */
public final class EdgeTests {
    public static void main(String[] args) throws Exception {
        Edges.open(args[0]);
        TermsEdges.all();
        WritingEdges.all();
        GoingEdges.all();
        KillingEdges.all();
        YankingEdges.all();
        TextEdges.all();
        UndoEdges.all();
        ScrollEdges.all();
        RingEdges.all();
        AccountEdges.all();
        Edges.close();
        Edges.end();
    }
}
