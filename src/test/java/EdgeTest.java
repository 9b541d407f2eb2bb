/** Every sentence of the document, at its bounds: one step inside, at them, one step outside; what is refused leaves all as it was. */
public final class EdgeTest {
    public static void main(String[] args) throws java.io.IOException {
        TextEdges.all();
        DeskEdges.all();
        LawEdges.all();
        PlanEdges.all();
        OtherEdges.all();
        SeenEdges.all();
        ShareEdges.all();
        ChanceEdges.all();
        ActEdges.all();
        RowEdges.all();
        DocumentEdges.all();
        Check.end();
    }
}
