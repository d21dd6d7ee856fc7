/**
 * The edges that the document names: each sentence with a boundary case has a test of its own, a method
 * that is named by the number of its promise and has that sentence above it.
 */
public final class EdgesTest {

    private static final Class<?>[] ALL = {SessionEdges.class, TickEdges.class, FrameEdges.class,
        PieceEdges.class, FlightEdges.class, JournalEdges.class, StateEdges.class};

    public static void main(String[] args) {
        Probe p = new Probe();
        int promises = 0;
        for (Class<?> tests : ALL) {
            promises |= p.runAll(tests);
        }
        for (int promise = 1; promise <= 24; promise++) {
            p.due("promise " + promise + " has tests", promises >> promise & 1, 1);
        }
        p.end("EdgesTest");
    }
}
