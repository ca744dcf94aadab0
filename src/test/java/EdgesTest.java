/** The edges that the document names, each in a script of its own; each promise has some. */
public final class EdgesTest {
    private static final int PROMISES = 30;

    private EdgesTest() {
    }

    public static void main(String[] args) {
        LotEdges.playAll();
        LabelEdges.playAll();
        CustomerEdges.playAll();
        RecallEdges.playAll();
        InputEdges.playAll();
        UndoEdges.playAll();
        twoBooks();
        for (int promise = 1; promise <= PROMISES; promise++) {
            if (!Script.promises().contains(promise)) {
                Script.report("promise " + promise, "its edges", "no script", "some");
            }
        }
        Script.end();
    }

    private static void twoBooks() {
        BottlingBook one = new BottlingBook();
        BottlingBook other = new BottlingBook();
        due(one, "harvest 10 0 0 100", "0");
        due(one, "feed 48", "1");
        due(one, "setLaw 0 500", "850");
        due(one, "bottle 0 40 -1 -1 -1 -1", "! ISE");
        due(one, "save", "1");
        due(other, "account 6", "0");
        due(other, "account 10", "0");
        due(other, "account 11", "0");
        due(other, "setLaw 0 600", "850");
        due(other, "reason", "! NSEE");
        due(other, "restore", "! ISE");
        due(other, "harvest 20 1 1 7", "0");
        due(one, "lot 0 0", "100");
        due(one, "account 10", "2");
        due(one, "setLaw 0 850", "500");
    }

    private static void due(BottlingBook book, String call, String due) {
        String got = Script.answerTo(book, call);
        if (!got.equals(due)) {
            Script.report("1 two books have nothing in common", call, got, due);
        }
    }
}
