import java.lang.management.ManagementFactory;

/**
 * What a run makes: nothing is ever given back in the room that a run lives in, so a dear run
 * of 512 calls has to stay far below its 7.3 million fields and elements.
 */
public final class RoomTests {
    private static final long BYTES_PER_ELEMENT = 4;
    private static final long MOST_FOR_A_NEW_OBJECT = 10_000 * BYTES_PER_ELEMENT;
    private static final long MOST_FOR_A_RUN = 700_000 * BYTES_PER_ELEMENT;

    private static final Due DUE = new Due("RoomTests");

    public static void main(String[] args) {
        run();
        long start = allocated();
        ProgressTracker x = new ProgressTracker();
        long made = allocated() - start;
        DUE.holds("a new object takes " + made + " bytes", made <= MOST_FOR_A_NEW_OBJECT);
        DUE.same("a new object answers", x.addNode(0, 0), 0);
        start = allocated();
        long answer = run();
        long spent = allocated() - start;
        DUE.holds("a run takes " + spent + " bytes", spent <= MOST_FOR_A_RUN);
        DUE.same("the same calls give the same answers", run(), answer);
        System.out.println("RoomTests: a new object takes " + made + " bytes, a dear run " + spent);
        DUE.end();
    }

    private static long allocated() {
        return ((com.sun.management.ThreadMXBean) ManagementFactory.getThreadMXBean()).getCurrentThreadAllocatedBytes();
    }

    // Nested loops, every output taken, worker 1 receives nothing: views and queues grow as far as they can.
    private static long run() {
        ProgressTracker x = Graphs.largest();
        long sum = x.send(0, 0);
        for (int call = 17; call < 512; call++) {
            int edge = call % 10;
            int outputs = Graphs.largestOutputs(edge);
            sum = 31 * sum + (call % 4 == 3 ? x.digest() : edge == 0 ? x.send(0, call / 10 % 2)
                    : call % 50 == 1 ? x.advance(0) : x.process(call / 10 % 2, edge, outputs, call / 20 % 2, call % 2));
            sum = 31 * sum + x.process(call / 10 % 2, edge, outputs, call % 3 % 2, 0);
        }
        return sum;
    }
}
