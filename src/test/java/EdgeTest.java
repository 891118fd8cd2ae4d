/** Every sentence of the document with its boundary cases; the sentences are held against the document itself. */
public final class EdgeTest {
    private EdgeTest() {
    }

    public static void main(String[] args) {
        TextEdges.run();
        MillEdges.run();
        HourEdges.run();
        PlanEdges.run();
        SeenEdges.run();
        SheetEdges.run();
        Edge.close();
        Due.close("EdgeTest");
    }
}
