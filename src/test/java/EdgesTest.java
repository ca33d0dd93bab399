/** Each sentence of the document that names a boundary case, at the boundary and on both sides of it. */
public final class EdgesTest {
    private static final int LAST_PROMISE = 50;

    public static void main(String[] args) {
        TextEdges.run();
        LawEdges.run();
        DayEdges.run();
        ActEdges.run();
        AheadEdges.run();
        CrowdEdges.run();
        MemoryEdges.run();
        Refusals.run();
        Check.everyPromise(LAST_PROMISE);
        Check.finish();
    }
}
