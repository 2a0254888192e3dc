/** Promises 1 to 34: each sentence of the document that names a boundary case has a test of its own. */
public final class EdgesTest {
    public static void main(String[] args) throws Exception {
        TermsEdges.run();
        RowsEdges.run();
        SentencesEdges.run();
        DealtEdges.run();
        PatternsEdges.run();
        TogetherEdges.run();
        SheetsEdges.run();
        Edges.holdAgainstDocument();
        Check.end();
    }
}
