/** The edges that the document names, each in a script of its own; each promise has some. */
public final class EdgesTest {
    private static final int PROMISES = 30;

    private EdgesTest() {
    }

    public static void main(String[] args) {
        LotEdges.playAll();
        LabelEdges.playAll();
        CustomerEdges.playAll();
        RecallEdges.playAll();
        InputEdges.playAll();
        UndoEdges.playAll();
        for (int promise = 1; promise <= PROMISES; promise++) {
            if (!Script.promises().contains(promise)) {
                Script.report("promise " + promise, "its edges", "no script", "some");
            }
        }
        Script.end();
    }
}
