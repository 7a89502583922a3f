/** Each sentence of the document that names an edge has a test of its own, which names it. */
public final class BoundaryTest {
    public static void main(String[] args) {
        TermsEdges.run();
        RuleEdges.run();
        DigEdges.run();
        KeepEdges.run();
        LendEdges.run();
        AskEdges.run();
        Document.allNamed();
        Checks.end();
    }
}
