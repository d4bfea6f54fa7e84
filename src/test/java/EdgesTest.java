/** All promises: for each sentence of the document one test, of the edges that it names. */
final class EdgesTest {
    public static void main(String[] args) {
        Edges edges = new Edges();
        new TermEdges(edges).run();
        new TimeEdges(edges).run();
        new OrderEdges(edges).run();
        new ScheduleEdges(edges).run();
        new BoundEdges(edges).run();
        edges.end();
    }
}
