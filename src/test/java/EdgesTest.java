/** Every sentence of the document that names a boundary case, with a test of its own under its promise's number. */
public final class EdgesTest {
    private EdgesTest() {
    }

    public static void main(String[] args) {
        TermEdges.all();
        TextEdges.all();
        WishEdges.all();
        CallEdges.all();
        DayEdges.all();
        SeatEdges.all();
        TiltEdges.all();
        KeepEdges.all();
        Edges.dueAllTested();
        Inn.close("EdgesTest");
    }
}
