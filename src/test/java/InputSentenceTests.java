import java.util.function.Supplier;
import java.util.function.ToIntFunction;

/** The sentences about inputs: promises 8 to 10, and what the description says of them. */
public final class InputSentenceTests {
    private static final int OUT = ProgressTracker.OUT_OF_RANGE;
    private static final int NOT = ProgressTracker.NOT_POSSIBLE;
    private static final int FULL = ProgressTracker.FULL;
    private static final int NONE = ProgressTracker.NONE;

    private static final Due DUE = new Due("InputSentenceTests");

    public static void main(String[] args) throws Exception {
        Sentences.run(InputSentenceTests.class, DUE);
    }

    private static void due(String what, long got, long want) {
        DUE.same(what, got, want);
    }

    private static void refused(String what, int code, Supplier<ProgressTracker> made, ToIntFunction<ProgressTracker> call) {
        Twins.refused(DUE, what, code, made, call);
    }

    /** The line, its input advanced so many times. */
    private static ProgressTracker inEpoch(int epoch) {
        ProgressTracker x = Graphs.line();
        for (int i = 0; i < epoch; i++) {
            x.advance(0);
        }
        return x;
    }

    private static ProgressTracker closedIn(int epoch) {
        ProgressTracker x = inEpoch(epoch);
        x.close(0);
        return x;
    }

    /** The line with so many messages for a worker on its edge. */
    private static ProgressTracker lineWith(int messages, int worker) {
        ProgressTracker x = Graphs.line();
        for (int i = 0; i < messages; i++) {
            x.send(0, worker);
        }
        return x;
    }

    // ---- what the description says of inputs

    @Holds(promise = 0, sentence = "Each input has an open epoch, initially 0, or is closed.")
    static void p00OpenEpoch() {
        due("the first epoch", Graphs.line().close(0), 0);
        due("the first message", Graphs.line().send(0, 0), 0);
        due("closed", closedIn(0).send(0, 0), NOT);
        ProgressTracker x = Graphs.line();
        x.addNode(0, 1);
        x.addEdge(2, 1, 0);
        x.advance(0);
        due("the other input has its own", x.send(1, 0), 0);
        x.close(0);
        due("the other input is open", x.advance(2), 1);
    }

    @Holds(promise = 0, sentence = "The pointstamp of the open epoch at the input node is counted by all workers from the beginning.")
    static void p00OpenEpochIsCounted() {
        ProgressTracker x = Graphs.line();
        for (int worker = 0; worker < 2; worker++) {
            due("counted", x.count(worker, 0, 0), 1001);
            due("not through a queue", x.pending(worker), 0);
            due("on the frontier", x.frontier(worker, 0), 0);
        }
    }

    @Holds(promise = 0, sentence = "Each worker has a view, which has a count for each pointstamp (initially 0, except for the open epochs of the inputs, which have 1).")
    static void p00FirstCounts() {
        ProgressTracker x = Graphs.largest();
        for (int worker = 0; worker < 2; worker++) {
            for (int location = 0; location < 16; location++) {
                due("location " + location, x.count(worker, location, 0), location == 0 ? 1001 : 1000);
                due("location " + location, x.count(worker, location, 900), 1000);
            }
            due("active", x.active(worker), 1);
        }
    }

    @Holds(promise = 0, sentence = {"Sending a message from an input: a message with the timestamp of the open epoch is put on an edge that starts at the input, for a worker.", "Updates: +1 for the timestamp at this edge."})
    static void p00Sending() {
        for (int epoch = 0; epoch <= 9; epoch += 9) {
            ProgressTracker x = inEpoch(epoch);
            x.receive(1, 99);
            due("send", x.send(0, 1), 100 * epoch);
            due("for worker 1", x.messageTime(1, 0, 0), 100 * epoch);
            due("not for worker 0", x.messages(0, 0), 0);
            due("one update", x.pending(1), 1);
            due("+1 at the edge", x.count(0, 6, 100 * epoch), 1001);
            due("the input is counted as before", x.count(0, 0, 100 * epoch), 1001);
        }
    }

    @Holds(promise = 0, sentence = {"Advancing an input: the open epoch increases by 1.", "Updates: +1 for the new epoch at the input node, then -1 for the old one."})
    static void p00Advancing() {
        for (int epoch = 0; epoch <= 8; epoch += 8) {
            ProgressTracker x = inEpoch(epoch);
            x.receive(1, 99);
            due("advance", x.advance(0), epoch + 1);
            due("two updates", x.pending(1), 2);
            due("the new one", x.count(0, 0, 100 * epoch + 100), 1001);
            due("the old one", x.count(0, 0, 100 * epoch), 1000);
            x.receive(1, 1);
            due("first the new one", x.count(1, 0, 100 * epoch + 100), 1001);
            due("the old one is still counted", x.count(1, 0, 100 * epoch), 1001);
            x.receive(1, 1);
            due("then the old one", x.count(1, 0, 100 * epoch), 1000);
        }
    }

    @Holds(promise = 0, sentence = "Closing an input: updates: -1 for the open epoch at the input node.")
    static void p00Closing() {
        for (int epoch = 0; epoch <= 9; epoch += 9) {
            ProgressTracker x = inEpoch(epoch);
            x.receive(1, 99);
            due("close", x.close(0), epoch);
            due("one update", x.pending(1), 1);
            due("own view", x.count(0, 0, 100 * epoch), 1000);
            due("nothing is active", x.active(0), 0);
            due("the other view", x.count(1, 0, 100 * epoch), 1001);
        }
    }

    @Holds(promise = 0, sentence = "Input events are performed by worker 0.")
    static void p00InputsAreOfWorker0() {
        ProgressTracker x = Graphs.line();
        x.send(0, 1);
        x.send(0, 0);
        x.advance(0);
        x.close(0);
        due("worker 0 has nothing to receive", x.pending(0), 0);
        due("worker 1 has all", x.pending(1), 5);
        due("view of worker 0", x.count(0, 6, 0), 1002);
        due("view of worker 1", x.count(1, 6, 0), 1000);
    }

    // ---- promise 8

    @Holds(promise = 8, sentence = {"`edge`: number of an edge that starts at an input", "OUT_OF_RANGE if there is no such edge"})
    static void p08Edge() {
        for (int edge : Bounds.outside(0, 2)) {
            refused("edge " + edge, OUT, Graphs::twoRequests, x -> x.send(edge, 0));
        }
        for (int edge : Bounds.outside(0, 9)) {
            refused("of ten edges: " + edge, OUT, Graphs::tenEdges, x -> x.send(edge, 0));
        }
        due("the least", Graphs.tenEdges().send(0, 0), 0);
        due("the greatest", Graphs.tenEdges().send(9, 0), 0);
        refused("edge 0 of another node", NOT, Graphs::lateInput, x -> x.send(0, 0));
        due("edge 1 of the input", Graphs.lateInput().send(1, 0), 0);
    }

    @Holds(promise = 8, sentence = {"`worker`: worker for which the message is put on the edge", "OUT_OF_RANGE if there is no such edge or worker"})
    static void p08Worker() {
        for (int worker : Bounds.outside(0, 1)) {
            refused("worker " + worker, OUT, Graphs::twoRequests, x -> x.send(0, worker));
        }
        for (int worker = 0; worker < 2; worker++) {
            ProgressTracker x = Graphs.line();
            due("send", x.send(0, worker), 0);
            due("for this worker", x.messages(worker, 0), 1);
            due("not for the other one", x.messages(1 - worker, 0), 0);
        }
    }

    @Holds(promise = 8, sentence = "NOT_POSSIBLE if the edge does not start at an input")
    static void p08NotFromAnInput() {
        refused("feedback edge", NOT, Graphs::twoRequests, x -> x.send(1, 0));
        refused("leaving edge", NOT, Graphs::twoRequests, x -> x.send(2, 0));
        Supplier<ProgressTracker> plain = () -> {
            ProgressTracker x = Graphs.nodes(0, 0);
            x.addEdge(0, 1, 0);
            return x;
        };
        refused("no edge leads to its start, yet it is no input", NOT, plain, x -> x.send(0, 1));
    }

    @Holds(promise = 8, sentence = "or the input is closed")
    static void p08Closed() {
        refused("closed in epoch 0", NOT, () -> closedIn(0), x -> x.send(0, 0));
        refused("closed in epoch 9", NOT, () -> closedIn(9), x -> x.send(0, 1));
        ProgressTracker x = closedIn(3);
        x.undo();
        due("open again after undo", x.send(0, 0), 300);
    }

    @Holds(promise = 8, sentence = "FULL if the edge has 12 messages for the worker.")
    static void p08Full() {
        for (int worker = 0; worker < 2; worker++) {
            int w = worker;
            due("the twelfth", lineWith(11, w).send(0, w), 0);
            refused("the thirteenth", FULL, () -> lineWith(12, w), x -> x.send(0, w));
            due("for the other worker", lineWith(12, w).send(0, 1 - w), 0);
            ProgressTracker x = lineWith(12, w);
            x.process(w, 0, 0, 0, 0);
            due("after one was taken", x.send(0, w), 0);
            due("full again", x.send(0, w), FULL);
        }
        ProgressTracker x = Graphs.tenEdges();
        for (int i = 0; i < 12; i++) {
            x.send(9, 0);
        }
        due("another edge", x.send(8, 0), 0);
        due("this edge", x.send(9, 0), FULL);
    }

    @Holds(promise = 8, sentence = {"Sends a message from an input.", "Returns the timestamp of the message"})
    static void p08Answer() {
        for (int epoch = 0; epoch <= 9; epoch++) {
            due("epoch " + epoch, inEpoch(epoch).send(0, epoch % 2), 100 * epoch);
        }
    }

    @Holds(promise = 8, sentence = "Undoable.")
    static void p08Undoable() {
        ProgressTracker x = lineWith(11, 1);
        long before = x.digest();
        x.send(0, 1);
        due("undo", x.undo(), 2);
        due("messages", x.messages(1, 0), 11);
        due("pending", x.pending(1), 11);
        due("count", x.count(0, 6, 0), 1011);
        due("one saved state less", x.digest(), before - 1);
        ProgressTracker y = lineWith(1, 0);
        y.undo();
        due("the first event undone: building goes on", y.addNode(0, 0), 2);
    }

    @Holds(promise = 8, sentence = "OUT_OF_RANGE if there is no such edge or worker; NOT_POSSIBLE if the edge does not start at an input or the input is closed; FULL if the edge has 12 messages for the worker.")
    static void p08OrderOfChecks() {
        Supplier<ProgressTracker> fullAndClosed = () -> {
            ProgressTracker x = lineWith(12, 0);
            x.close(0);
            return x;
        };
        refused("closed before full", NOT, fullAndClosed, x -> x.send(0, 0));
        refused("range before closed", OUT, fullAndClosed, x -> x.send(0, 2));
        refused("range before full", OUT, () -> lineWith(12, 0), x -> x.send(1, 0));
        refused("range before no input", OUT, Graphs::loop, x -> x.send(1, -1));
        refused("no input before full", NOT, () -> Graphs.feedbackWith(12, 1), x -> x.send(1, 1));
    }

    // ---- promise 9

    @Holds(promise = 9, sentence = {"`node`: number of a node", "OUT_OF_RANGE if there is no such node"})
    static void p09Node() {
        for (int node : Bounds.outside(0, 2)) {
            refused("node " + node, OUT, Graphs::twoRequests, x -> x.advance(node));
        }
        refused("a seventh node", OUT, Graphs::largest, x -> x.advance(6));
        due("the least", Graphs.largest().advance(0), 1);
        ProgressTracker x = Graphs.nodes(0, 0, 0, 0, 0);
        x.addNode(0, 1);
        due("the greatest", x.advance(5), 1);
    }

    @Holds(promise = 9, sentence = "NOT_POSSIBLE if the node is not an input")
    static void p09NoInput() {
        refused("depth 1", NOT, Graphs::twoRequests, x -> x.advance(1));
        refused("depth 0", NOT, Graphs::twoRequests, x -> x.advance(2));
        refused("no edge leads to it", NOT, () -> Graphs.nodes(0), x -> x.advance(0));
    }

    @Holds(promise = 9, sentence = "the input is closed")
    static void p09Closed() {
        refused("closed in epoch 0", NOT, () -> closedIn(0), x -> x.advance(0));
        refused("closed in epoch 8", NOT, () -> closedIn(8), x -> x.advance(0));
        refused("closed in epoch 9", NOT, () -> closedIn(9), x -> x.advance(0));
    }

    @Holds(promise = 9, sentence = "or its open epoch is 9.")
    static void p09LastEpoch() {
        due("epoch 8", inEpoch(8).advance(0), 9);
        refused("epoch 9", NOT, () -> inEpoch(9), x -> x.advance(0));
        ProgressTracker x = inEpoch(9);
        x.advance(0);
        due("it can still send", x.send(0, 0), 900);
        due("it can still be closed", x.close(0), 9);
        ProgressTracker y = inEpoch(9);
        y.undo();
        due("after undo", y.advance(0), 9);
    }

    @Holds(promise = 9, sentence = {"Advances an input.", "Returns the new open epoch"})
    static void p09Answer() {
        ProgressTracker x = Graphs.line();
        for (int epoch = 1; epoch <= 9; epoch++) {
            due("the epoch, not its timestamp", x.advance(0), epoch);
        }
    }

    @Holds(promise = 9, sentence = "Undoable.")
    static void p09Undoable() {
        ProgressTracker x = inEpoch(4);
        long before = x.digest();
        x.advance(0);
        due("undo", x.undo(), 2);
        due("one saved state less", x.digest(), before - 1);
        due("the open epoch", x.send(0, 0), 400);
        due("pending", x.pending(1), 9);
    }

    // ---- promise 10

    @Holds(promise = 10, sentence = {"`node`: number of a node", "OUT_OF_RANGE if there is no such node"})
    static void p10Node() {
        for (int node : Bounds.outside(0, 2)) {
            refused("node " + node, OUT, Graphs::twoRequests, x -> x.close(node));
        }
        refused("a seventh node", OUT, Graphs::largest, x -> x.close(6));
        due("the least", Graphs.largest().close(0), 0);
        ProgressTracker x = Graphs.nodes(0, 0, 0, 0, 0);
        x.addNode(0, 1);
        due("the greatest", x.close(5), 0);
    }

    @Holds(promise = 10, sentence = "NOT_POSSIBLE if the node is not an input")
    static void p10NoInput() {
        refused("depth 1", NOT, Graphs::twoRequests, x -> x.close(1));
        refused("depth 0", NOT, Graphs::twoRequests, x -> x.close(2));
        refused("no edge leads to it", NOT, () -> Graphs.nodes(0), x -> x.close(0));
    }

    @Holds(promise = 10, sentence = "or the input is closed.")
    static void p10Closed() {
        refused("closed in epoch 0", NOT, () -> closedIn(0), x -> x.close(0));
        refused("closed in epoch 9", NOT, () -> closedIn(9), x -> x.close(0));
    }

    @Holds(promise = 10, sentence = {"Closes an input.", "Returns the epoch that was open"})
    static void p10Answer() {
        for (int epoch = 0; epoch <= 9; epoch++) {
            due("the epoch, not its timestamp", inEpoch(epoch).close(0), epoch);
        }
        ProgressTracker x = closedIn(0);
        due("nothing is left on the frontier", x.frontier(0, 0), NONE);
    }

    @Holds(promise = 10, sentence = "Undoable.")
    static void p10Undoable() {
        ProgressTracker x = inEpoch(9);
        long before = x.digest();
        x.close(0);
        due("undo", x.undo(), 2);
        due("one saved state less", x.digest(), before - 1);
        due("open again", x.close(0), 9);
    }
}
