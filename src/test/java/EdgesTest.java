/** The boundaries that the document names, sentence by sentence, of all promises. */
public final class EdgesTest {
    private EdgesTest() {
    }

    public static void main(String[] args) {
        Edges edges = new Edges();
        new HirerEdges(edges).run();
        new HireEdges(edges).run();
        new ClashEdges(edges).run();
        new SessionEdges(edges).run();
        new PriceEdges(edges).run();
        new CalendarEdges(edges).run();
        new DayEdges(edges).run();
        new UndoEdges(edges).run();
        new KeyEdges(edges).run();
        new FaultEdges(edges).run();
        new TextEdges(edges).run();
        new EnterEdges(edges).run();
        edges.end();
    }
}
