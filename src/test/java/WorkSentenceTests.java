import java.util.ArrayList;
import java.util.List;
import java.util.Map;
import java.util.TreeMap;
import java.util.function.Supplier;
import java.util.function.ToIntFunction;

/** The sentences about the events of workers: promises 11 to 13, and what the description says of them. */
public final class WorkSentenceTests {
    private static final int OUT = ProgressTracker.OUT_OF_RANGE;
    private static final int NOT = ProgressTracker.NOT_POSSIBLE;
    private static final int FULL = ProgressTracker.FULL;
    private static final int NONE = ProgressTracker.NONE;

    private static final Due DUE = new Due("WorkSentenceTests");

    public static void main(String[] args) throws Exception {
        Sentences.run(WorkSentenceTests.class, DUE);
    }

    private static void due(String what, long got, long want) {
        DUE.same(what, got, want);
    }

    private static void refused(String what, int code, Supplier<ProgressTracker> made, ToIntFunction<ProgressTracker> call) {
        Twins.refused(DUE, what, code, made, call);
    }

    /** The loop with a message for each worker on edge 0. */
    private static ProgressTracker twoMessages() {
        ProgressTracker x = Graphs.loop();
        x.send(0, 0);
        x.send(0, 1);
        return x;
    }

    /** The loop with 12 messages for a worker on the feedback edge, and one more for worker 0 on edge 0. */
    private static ProgressTracker fullFeedback(int worker) {
        ProgressTracker x = Graphs.feedbackWith(12, worker);
        x.send(0, 0);
        return x;
    }

    /** The loop with 12 requests of worker 0, and a message for each worker on edge 0. */
    private static ProgressTracker fullRequests() {
        ProgressTracker x = Graphs.requestsOf(12);
        x.send(0, 0);
        x.send(0, 1);
        return x;
    }

    /** The largest graph with a message of worker 0 on edge 1, which leads to node 2. */
    private static ProgressTracker messageAtTheInnerLoop() {
        ProgressTracker x = Graphs.largest();
        x.send(0, 0);
        x.process(0, 0, 2, 0, 0);
        return x;
    }

    /** The loop, closed, with one request of worker 0 for 0 at node 1, which can be delivered. */
    private static ProgressTracker oneDeliverable() {
        ProgressTracker x = Graphs.requestsOf(1);
        x.close(0);
        return x;
    }

    /** The loop with so many messages for worker 1 on the feedback edge and a request of worker 0 that can be delivered. */
    private static ProgressTracker deliverableWith(int messages) {
        ProgressTracker x = Graphs.feedbackWith(messages, 1);
        x.send(0, 0);
        x.process(0, 0, 0, 0, 1);
        x.close(0);
        return x;
    }

    // ---- promise 11: arguments

    @Holds(promise = 11, sentence = {"`worker`: 0 or 1", "OUT_OF_RANGE if there is no such worker"})
    static void p11Worker() {
        for (int worker : Bounds.outside(0, 1)) {
            refused("worker " + worker, OUT, WorkSentenceTests::twoMessages, x -> x.process(worker, 0, 0, 0, 0));
        }
        for (int worker = 0; worker < 2; worker++) {
            ProgressTracker x = twoMessages();
            due("process", x.process(worker, 0, 0, 0, 0), 0);
            due("its own message is taken", x.messages(worker, 0), 0);
            due("not that of the other one", x.messages(1 - worker, 0), 1);
        }
    }

    @Holds(promise = 11, sentence = {"`edge`: number of an edge", "OUT_OF_RANGE if there is no such worker, edge"})
    static void p11Edge() {
        for (int edge : Bounds.outside(0, 2)) {
            refused("edge " + edge, OUT, WorkSentenceTests::twoMessages, x -> x.process(0, edge, 0, 0, 0));
        }
        for (int edge : Bounds.outside(0, 9)) {
            refused("of ten edges: " + edge, OUT, Graphs::tenEdges, x -> x.process(0, edge, 0, 0, 0));
        }
        ProgressTracker x = Graphs.tenEdges();
        x.send(0, 0);
        x.send(9, 0);
        due("the greatest", x.process(0, 9, 0, 0, 0), 0);
        due("the least", x.process(0, 0, 0, 0, 0), 0);
    }

    @Holds(promise = 11, sentence = {"`target`: worker for which they are put there", "OUT_OF_RANGE if there is no such worker, edge or target"})
    static void p11Target() {
        for (int target : Bounds.outside(0, 1)) {
            refused("target " + target, OUT, WorkSentenceTests::twoMessages, x -> x.process(0, 0, 2, target, 0));
            refused("target " + target + ", no outputs", OUT, WorkSentenceTests::twoMessages, x -> x.process(0, 0, 0, target, 0));
        }
        for (int target = 0; target < 2; target++) {
            ProgressTracker x = twoMessages();
            due("process", x.process(0, 0, 2, target, 0), 0);
            due("for the target", x.messages(target, 1), 1);
            due("not for the other one", x.messages(1 - target, 1), 0);
        }
    }

    @Holds(promise = 11, sentence = {"`request`: 1 to request a notification, 0 not to", "request is neither 0 nor 1"})
    static void p11Request() {
        for (int request : Bounds.outside(0, 1)) {
            refused("request " + request, OUT, WorkSentenceTests::twoMessages, x -> x.process(0, 0, 0, 0, request));
        }
        for (int request = 0; request < 2; request++) {
            ProgressTracker x = twoMessages();
            due("process", x.process(1, 0, 0, 0, request), 0);
            due("requests", x.requests(1, 1), request);
            due("of the other worker", x.requests(0, 1), 0);
        }
    }

    @Holds(promise = 11, sentence = {"`outputs`: bit set of edges on which messages are put (bit k for edge k)", "or outputs contains an edge that does not exist"})
    static void p11Outputs() {
        int[] missing = {8, 8 | 2, 1 << 9, 1 << 10, 1 << 30, 1 << 31, -1, Integer.MAX_VALUE};
        for (int outputs : missing) {
            refused("outputs " + outputs, OUT, WorkSentenceTests::twoMessages, x -> x.process(0, 0, outputs, 0, 0));
        }
        Supplier<ProgressTracker> made = WorkSentenceTests::messageAtTheInnerLoop;
        refused("bit 10 of ten edges", OUT, made, x -> x.process(0, 1, 1 << 10, 0, 0));
        ProgressTracker x = made.get();
        due("bits 2, 7 and 9", x.process(0, 1, 1 << 2 | 1 << 7 | 1 << 9, 1, 0), 0);
        for (int edge = 0; edge < 10; edge++) {
            due("edge " + edge, x.messages(1, edge), edge == 2 || edge == 7 || edge == 9 ? 1 : 0);
        }
        ProgressTracker y = made.get();
        due("no bit", y.process(0, 1, 0, 1, 0), 0);
        due("no message", y.messages(1, 2) + y.messages(1, 7) + y.messages(1, 9), 0);
        ProgressTracker z = Graphs.lateInput();
        z.send(1, 0);
        due("bit 0", z.process(0, 1, 1, 1, 0), 0);
        due("edge 0", z.messages(1, 0), 1);
    }

    @Holds(promise = 11, sentence = "NOT_POSSIBLE if the worker has no message on the edge")
    static void p11NoMessage() {
        Supplier<ProgressTracker> made = () -> {
            ProgressTracker x = Graphs.loop();
            x.send(0, 0);
            return x;
        };
        refused("the other worker has one", NOT, made, x -> x.process(1, 0, 0, 0, 0));
        refused("another edge has one", NOT, made, x -> x.process(0, 1, 0, 0, 0));
        refused("before the first event", NOT, Graphs::loop, x -> x.process(0, 0, 0, 0, 0));
        ProgressTracker x = made.get();
        due("the last one", x.process(0, 0, 0, 0, 0), 0);
        due("after the last one", x.process(0, 0, 0, 0, 0), NOT);
    }

    @Holds(promise = 11, sentence = "or outputs contains an edge that does not start at the node to which the edge leads")
    static void p11OutputsElsewhere() {
        refused("the edge itself", NOT, WorkSentenceTests::twoMessages, x -> x.process(0, 0, 1, 0, 0));
        refused("one of three", NOT, WorkSentenceTests::twoMessages, x -> x.process(0, 0, 7, 0, 0));
        Supplier<ProgressTracker> atTheEnd = () -> {
            ProgressTracker x = Graphs.loop();
            x.send(0, 0);
            x.process(0, 0, 4, 0, 0);
            return x;
        };
        for (int outputs = 1; outputs < 8; outputs++) {
            int set = outputs;
            refused("none starts at node 2", NOT, atTheEnd, x -> x.process(0, 2, set, 0, 0));
        }
        due("all that start there", twoMessages().process(0, 0, 6, 0, 0), 0);
        due("none", atTheEnd.get().process(0, 2, 0, 0, 0), 0);
        refused("edge 8 of ten", NOT, WorkSentenceTests::messageAtTheInnerLoop, x -> x.process(0, 1, 1 << 8, 0, 0));
        refused("edges 6 and 9 of ten", NOT, WorkSentenceTests::messageAtTheInnerLoop, x -> x.process(0, 1, 1 << 9 | 1 << 6, 0, 0));
        refused("a message that would be dropped", NOT, () -> Graphs.nineRounds(Graphs.loop()), x -> x.process(0, 1, 1, 0, 0));
    }

    // ---- promise 11: what is full

    @Holds(promise = 11, sentence = "FULL if one of the edges of outputs has 12 messages for the target already")
    static void p11FullEdge() {
        ProgressTracker x = Graphs.feedbackWith(11, 1);
        x.send(0, 0);
        due("the twelfth", x.process(0, 0, 2, 1, 0), 0);
        due("twelve", x.messages(1, 1), 12);
        refused("the thirteenth", FULL, () -> fullFeedback(1), y -> y.process(0, 0, 2, 1, 0));
        refused("one of two edges", FULL, () -> fullFeedback(1), y -> y.process(0, 0, 6, 1, 0));
        refused("with a request", FULL, () -> fullFeedback(1), y -> y.process(0, 0, 2, 1, 1));
        due("for the other target", fullFeedback(1).process(0, 0, 2, 0, 0), 0);
        due("another edge", fullFeedback(1).process(0, 0, 4, 1, 0), 0);
        due("no edge", fullFeedback(1).process(0, 0, 0, 1, 0), 0);
    }

    @Holds(promise = 11, sentence = "FULL if one of the edges of outputs has 12 messages for the target already")
    static void p11FullFirstAndLastEdge() {
        Supplier<ProgressTracker> first = () -> {
            ProgressTracker x = Graphs.lateInput();
            for (int i = 0; i < 13; i++) {
                x.send(1, 0);
                x.process(0, 1, i < 12 ? 1 : 0, 0, 0);
            }
            x.send(1, 0);
            return x;
        };
        refused("edge 0", FULL, first, x -> x.process(0, 1, 1, 0, 0));
        Supplier<ProgressTracker> last = () -> {
            ProgressTracker x = Graphs.largest();
            for (int i = 0; i < 12; i++) {
                x.send(0, 0);
                x.process(0, 0, 2, 0, 0);
                x.process(0, 1, 1 << 9, 0, 0);
            }
            x.send(0, 0);
            x.process(0, 0, 2, 0, 0);
            return x;
        };
        refused("edge 9", FULL, last, x -> x.process(0, 1, 1 << 9 | 1 << 2, 0, 0));
        due("edge 9 for the other target", last.get().process(0, 1, 1 << 9, 1, 0), 0);
    }

    @Holds(promise = 11, sentence = "or if a notification is requested and the worker has 12 requests")
    static void p11FullRequests() {
        ProgressTracker x = Graphs.requestsOf(11);
        x.send(0, 0);
        due("the twelfth", x.process(0, 0, 0, 0, 1), 0);
        due("twelve", x.requests(0, 1), 12);
        refused("the thirteenth", FULL, WorkSentenceTests::fullRequests, y -> y.process(0, 0, 0, 0, 1));
        refused("with outputs", FULL, WorkSentenceTests::fullRequests, y -> y.process(0, 0, 6, 1, 1));
        due("not requested", fullRequests().process(0, 0, 6, 0, 0), 0);
        due("by the other worker", fullRequests().process(1, 0, 0, 0, 1), 0);
        Supplier<ProgressTracker> ofWorker1 = () -> {
            ProgressTracker z = Graphs.requestsOf(12, 1);
            z.send(0, 1);
            z.send(0, 0);
            return z;
        };
        refused("the thirteenth of worker 1", FULL, ofWorker1, z -> z.process(1, 0, 0, 0, 1));
        due("the first of worker 0", ofWorker1.get().process(0, 0, 0, 1, 1), 0);
        ProgressTracker y = fullRequests();
        y.process(0, 0, 4, 0, 0);
        due("at another node: the worker's requests count together", y.process(0, 2, 0, 0, 1), FULL);
    }

    @Holds(promise = 11, sentence = "the worker has 12 requests")
    static void p11RoomAfterADelivery() {
        ProgressTracker x = fullRequests();
        x.process(0, 0, 2, 0, 0);
        x.process(1, 0, 0, 0, 0);
        x.close(0);
        x.receive(0, 99);
        due("full", x.process(0, 1, 0, 0, 1), FULL);
        due("deliver", x.deliver(0, 1, 0, 0), 0);
        due("now there is room", x.process(0, 1, 0, 0, 1), 10);
        due("twelve again", x.requests(0, 1), 12);
    }

    @Holds(promise = 11, sentence = "(also if the message would be dropped;")
    static void p11FullThoughDropped() {
        Supplier<ProgressTracker> edge = () -> Graphs.nineRounds(Graphs.feedbackWith(12, 1));
        refused("full edge", FULL, edge, x -> x.process(0, 1, 2, 1, 0));
        due("no full edge", edge.get().process(0, 1, 2, 0, 0), NONE);
        Supplier<ProgressTracker> requests = () -> Graphs.nineRounds(Graphs.requestsOf(12));
        refused("full requests", FULL, requests, x -> x.process(0, 1, 0, 0, 1));
        due("not requested", requests.get().process(0, 1, 0, 0, 0), NONE);
        due("eleven requests", Graphs.nineRounds(Graphs.requestsOf(11)).process(0, 1, 0, 0, 1), NONE);
    }

    @Holds(promise = 11, sentence = "the taken message counts on its edge).")
    static void p11TakenMessageCounts() {
        refused("twelve with the taken one", FULL, () -> Graphs.feedbackWith(12, 0), x -> x.process(0, 1, 2, 0, 0));
        due("eleven with the taken one", Graphs.feedbackWith(11, 0).process(0, 1, 2, 0, 0), 10);
        ProgressTracker x = Graphs.feedbackWith(12, 0);
        due("for the other target", x.process(0, 1, 2, 1, 0), 10);
        due("eleven are left", x.process(0, 1, 2, 0, 0), 10);
        due("still eleven", x.messages(0, 1), 11);
        due("the new one is the last", x.messageTime(0, 1, 10), 10);
    }

    // ---- promise 11: what it does

    @Holds(promise = 11, sentence = {"Processes the oldest message of a worker on an edge.", "Returns the timestamp of the message after the move"})
    static void p11Answer() {
        ProgressTracker x = Graphs.loop();
        x.send(0, 0);
        due("along the entering edge", x.process(0, 0, 2, 0, 0), 0);
        for (int round = 1; round <= 9; round++) {
            due("along the feedback edge", x.process(0, 1, round == 9 ? 4 : 2, 0, 0), 10 * round);
        }
        due("along the leaving edge", x.process(0, 2, 0, 0, 0), 0);
        ProgressTracker y = Graphs.loop();
        for (int i = 0; i < 9; i++) {
            y.advance(0);
        }
        y.send(0, 1);
        due("the last epoch", y.process(1, 0, 0, 0, 0), 900);
    }

    @Holds(promise = 11, sentence = "NONE if the message was dropped")
    static void p11Dropped() {
        ProgressTracker x = Graphs.nineRounds(Graphs.loop());
        due("dropped", x.process(0, 1, 6, 1, 1), NONE);
        for (int code = -5; code <= -2; code++) {
            due("no error", x.errorCount(code), 0);
        }
        due("it is gone", x.messages(0, 1), 0);
        due("again", x.process(0, 1, 6, 1, 1), NOT);
        due("the event ends the building", x.addNode(0, 0), NOT);
    }

    @Holds(promise = 11, sentence = "Undoable.")
    static void p11Undoable() {
        ProgressTracker x = twoMessages();
        long before = x.digest();
        x.process(1, 0, 6, 0, 1);
        due("undo", x.undo(), 2);
        due("one saved state less", x.digest(), before - 1);
        due("nothing is pending", x.pending(0), 0);
        ProgressTracker y = Graphs.nineRounds(Graphs.loop());
        before = y.digest();
        y.process(0, 1, 2, 0, 0);
        due("undo of a drop", y.undo(), 2);
        due("one saved state less", y.digest(), before - 1);
        due("the message is there again", y.messageTime(0, 1, 0), 90);
    }

    @Holds(promise = 11, sentence = {"request is neither 0 nor 1, or outputs contains an edge that does not exist; NOT_POSSIBLE if the worker has no message on the edge", "FULL if one of the edges of outputs has 12 messages"})
    static void p11OrderOfChecks() {
        refused("worker before message", OUT, Graphs::loop, x -> x.process(2, 0, 0, 0, 0));
        refused("target before message", OUT, Graphs::loop, x -> x.process(0, 0, 0, 2, 0));
        refused("request before message", OUT, Graphs::loop, x -> x.process(0, 0, 0, 0, 2));
        refused("outputs before message", OUT, Graphs::loop, x -> x.process(0, 0, 8, 0, 0));
        refused("a missing output before one elsewhere", OUT, WorkSentenceTests::twoMessages, x -> x.process(0, 0, 9, 0, 0));
        refused("message before full", NOT, () -> Graphs.feedbackWith(12, 1), x -> x.process(0, 0, 2, 1, 0));
        refused("outputs elsewhere before full", NOT, () -> fullFeedback(1), x -> x.process(0, 0, 3, 1, 0));
        refused("range before full", OUT, () -> fullFeedback(1), x -> x.process(0, 0, 2, 1, 2));
        refused("message before full requests", NOT, WorkSentenceTests::fullRequests, x -> x.process(0, 1, 0, 0, 1));
        refused("outputs elsewhere before full requests", NOT, WorkSentenceTests::fullRequests, x -> x.process(0, 0, 1, 0, 1));
    }

    // ---- what the description says of processing

    @Holds(promise = 0, sentence = "Processing a message: a worker takes its oldest message from an edge (for each worker, the messages on an edge are ordered by the time when they were put there)")
    static void p00Oldest() {
        ProgressTracker x = Graphs.loop();
        x.send(0, 0);
        x.send(0, 1);
        x.advance(0);
        x.send(0, 1);
        x.send(0, 0);
        for (int worker = 0; worker < 2; worker++) {
            due("the oldest", x.process(worker, 0, 2, 0, 0), 0);
            due("then the next", x.process(worker, 0, 2, 0, 0), 100);
        }
        int[] times = {0, 100, 0, 100};
        for (int index = 0; index < 4; index++) {
            due("by the time when put, not by the timestamp", x.messageTime(0, 1, index), times[index]);
        }
    }

    @Holds(promise = 0, sentence = {"Let n be the node to which the edge leads, and t the timestamp of the message after the move along the edge;", "if the move is impossible, the message is dropped, and the only update is -1 for its timestamp at the edge."})
    static void p00Dropping() {
        ProgressTracker x = Graphs.nineRounds(Graphs.loop());
        x.receive(1, 99);
        due("nothing is pending", x.pending(1), 0);
        due("dropped", x.process(0, 1, 6, 0, 1), NONE);
        due("no message", x.messages(0, 1) + x.messages(0, 2), 0);
        due("no request", x.requests(0, 1), 0);
        due("the only update", x.pending(1), 1);
        due("in its own view", x.count(0, 7, 90), 1000);
        due("the other view has it still", x.count(1, 7, 90), 1001);
        x.receive(1, 1);
        due("-1 at the edge", x.count(1, 7, 90), 1000);
        ProgressTracker y = Graphs.nineRounds(Graphs.loop());
        y.undo();
        y.receive(1, 99);
        due("one round earlier it is not dropped", y.process(0, 1, 6, 0, 1), 90);
        due("four updates", y.pending(1), 4);
    }

    @Holds(promise = 0, sentence = "Otherwise the worker puts a message with the timestamp t on each edge of a chosen set of edges that start at n, in ascending order of their numbers, for a chosen worker;")
    static void p00PutsMessages() {
        ProgressTracker x = Graphs.loop();
        x.send(0, 0);
        x.process(0, 0, 2, 0, 0);
        due("with the timestamp after the move", x.process(0, 1, 6, 1, 0), 10);
        due("on edge 1", x.messageTime(1, 1, 0), 10);
        due("on edge 2", x.messageTime(1, 2, 0), 10);
        due("one each", x.messages(1, 1) + x.messages(1, 2), 2);
        due("none for the other worker", x.messages(0, 1) + x.messages(0, 2), 0);
        due("none on the edge to n", x.messages(1, 0), 0);
    }

    @Holds(promise = 0, sentence = "and if it wants so, it requests a notification for t at n.")
    static void p00Requests() {
        ProgressTracker x = Graphs.loop();
        x.send(0, 0);
        x.process(0, 0, 2, 1, 0);
        due("after the move", x.process(1, 1, 0, 0, 1), 10);
        due("by the worker that processes", x.requests(1, 1), 1);
        due("not by the other one", x.requests(0, 1), 0);
        due("for t", x.count(1, 1, 10), 1001);
        due("not for the timestamp before the move", x.count(1, 1, 0), 1000);
    }

    @Holds(promise = 0, sentence = {"Updates, in this order: +1 for t at each of these edges;", "+1 for t at n if a notification is requested;", "-1 for the timestamp of the taken message at the edge it was taken from."})
    static void p00UpdatesOfProcessing() {
        ProgressTracker x = Graphs.feedbackWith(1, 1);
        x.receive(1, 99);
        due("process", x.process(1, 1, 6, 0, 1), 10);
        due("four updates", x.pending(0), 4);
        int[] locations = {7, 8, 1, 7};
        int[] times = {10, 10, 10, 0};
        int[] before = {1000, 1000, 1000, 1001};
        int[] after = {1001, 1001, 1001, 1000};
        for (int i = 0; i < 4; i++) {
            due("own view at once", x.count(1, locations[i], times[i]), after[i]);
            due("update " + i + " has not come", x.count(0, locations[i], times[i]), before[i]);
            due("receive", x.receive(0, 1), 1);
            due("update " + i, x.count(0, locations[i], times[i]), after[i]);
        }
        ProgressTracker y = Graphs.feedbackWith(1, 1);
        y.process(1, 1, 0, 0, 0);
        due("without outputs and request", y.pending(0), 1);
    }

    // ---- promise 12

    @Holds(promise = 12, sentence = {"`worker`: 0 or 1", "OUT_OF_RANGE if there is no such worker"})
    static void p12Worker() {
        for (int worker : Bounds.outside(0, 1)) {
            refused("worker " + worker, OUT, WorkSentenceTests::oneDeliverable, x -> x.deliver(worker, 1, 0, 0));
        }
        due("worker 0", oneDeliverable().deliver(0, 1, 0, 0), 0);
        ProgressTracker x = twoMessages();
        x.process(0, 0, 0, 0, 0);
        x.process(1, 0, 0, 0, 1);
        x.close(0);
        x.receive(1, 99);
        due("worker 1", x.deliver(1, 1, 0, 0), 0);
    }

    @Holds(promise = 12, sentence = {"`node`: number of a node", "OUT_OF_RANGE if there is no such worker, node"})
    static void p12Node() {
        for (int node : Bounds.outside(0, 2)) {
            refused("node " + node, OUT, WorkSentenceTests::oneDeliverable, x -> x.deliver(0, node, 0, 0));
        }
        refused("a seventh node", OUT, Graphs::largest, x -> x.deliver(0, 6, 0, 0));
        refused("the least", NOT, WorkSentenceTests::oneDeliverable, x -> x.deliver(0, 0, 0, 0));
        refused("the greatest", NOT, Graphs::largest, x -> x.deliver(0, 5, 0, 0));
    }

    @Holds(promise = 12, sentence = {"`target`: worker for which they are put there", "OUT_OF_RANGE if there is no such worker, node or target"})
    static void p12Target() {
        for (int target : Bounds.outside(0, 1)) {
            refused("target " + target, OUT, WorkSentenceTests::oneDeliverable, x -> x.deliver(0, 1, 0, target));
        }
        for (int target = 0; target < 2; target++) {
            ProgressTracker x = oneDeliverable();
            due("deliver", x.deliver(0, 1, 4, target), 0);
            due("for the target", x.messages(target, 2), 1);
            due("not for the other one", x.messages(1 - target, 2), 0);
        }
    }

    @Holds(promise = 12, sentence = {"`outputs`: bit set of edges on which messages are put (bit k for edge k)", "or outputs contains an edge that does not exist"})
    static void p12Outputs() {
        int[] missing = {8, 8 | 2, 1 << 9, 1 << 10, 1 << 30, 1 << 31, -1, Integer.MAX_VALUE};
        for (int outputs : missing) {
            refused("outputs " + outputs, OUT, WorkSentenceTests::oneDeliverable, x -> x.deliver(0, 1, outputs, 0));
        }
        for (int outputs = 0; outputs <= 6; outputs += 2) {
            ProgressTracker x = oneDeliverable();
            due("deliver", x.deliver(0, 1, outputs, 0), 0);
            due("edge 1", x.messages(0, 1), outputs >> 1 & 1);
            due("edge 2", x.messages(0, 2), outputs >> 2);
        }
        Supplier<ProgressTracker> nested = () -> {
            ProgressTracker x = Graphs.largest();
            x.send(0, 0);
            x.process(0, 0, 2, 0, 0);
            x.process(0, 1, 0, 0, 1);
            x.close(0);
            return x;
        };
        refused("bit 10 of ten edges", OUT, nested, x -> x.deliver(0, 2, 1 << 10, 0));
        ProgressTracker x = nested.get();
        due("bit 9 of ten edges", x.deliver(0, 2, 1 << 9, 1), 0);
        due("edge 9", x.messages(1, 9), 1);
        ProgressTracker y = Graphs.lateInput();
        y.send(1, 0);
        y.process(0, 1, 0, 0, 1);
        y.close(1);
        due("bit 0", y.deliver(0, 0, 1, 1), 0);
        due("edge 0", y.messages(1, 0), 1);
    }

    @Holds(promise = 12, sentence = "NOT_POSSIBLE if there is no such notification")
    static void p12NoNotification() {
        refused("none requested", NOT, Graphs::loop, x -> x.deliver(0, 1, 0, 0));
        refused("requested by the other worker", NOT, WorkSentenceTests::oneDeliverable, x -> x.deliver(1, 1, 0, 0));
        refused("requested at another node", NOT, WorkSentenceTests::oneDeliverable, x -> x.deliver(0, 2, 0, 0));
        refused("the input is open", NOT, () -> Graphs.requestsOf(1), x -> x.deliver(0, 1, 0, 0));
        ProgressTracker x = oneDeliverable();
        due("the last one", x.deliver(0, 1, 0, 0), 0);
        due("after the last one", x.deliver(0, 1, 0, 0), NOT);
    }

    @Holds(promise = 12, sentence = "or outputs contains an edge that does not start at the node")
    static void p12OutputsElsewhere() {
        refused("the edge that leads to it", NOT, WorkSentenceTests::oneDeliverable, x -> x.deliver(0, 1, 1, 0));
        refused("one of three", NOT, WorkSentenceTests::oneDeliverable, x -> x.deliver(0, 1, 7, 0));
        due("all that start there", oneDeliverable().deliver(0, 1, 6, 0), 0);
        Supplier<ProgressTracker> nested = () -> {
            ProgressTracker x = messageAtTheInnerLoop();
            x.process(0, 1, 0, 0, 1);
            x.close(0);
            return x;
        };
        refused("edge 8 of ten", NOT, nested, x -> x.deliver(0, 2, 1 << 8, 0));
        due("edges 7 and 9 of ten", nested.get().deliver(0, 2, 1 << 9 | 1 << 7, 0), 0);
    }

    @Holds(promise = 12, sentence = "FULL if one of the edges of outputs has 12 messages for the target.")
    static void p12Full() {
        ProgressTracker x = deliverableWith(11);
        due("the twelfth", x.deliver(0, 1, 2, 1), 0);
        due("twelve", x.messages(1, 1), 12);
        refused("the thirteenth", FULL, () -> deliverableWith(12), y -> y.deliver(0, 1, 2, 1));
        refused("one of two edges", FULL, () -> deliverableWith(12), y -> y.deliver(0, 1, 6, 1));
        due("for the other target", deliverableWith(12).deliver(0, 1, 2, 0), 0);
        due("another edge", deliverableWith(12).deliver(0, 1, 4, 1), 0);
        due("no edge", deliverableWith(12).deliver(0, 1, 0, 1), 0);
    }

    @Holds(promise = 12, sentence = {"Delivers the notification with the least timestamp, as a number, of those that a worker has requested at a node and that can be delivered.", "Returns the timestamp of the notification"})
    static void p12Least() {
        ProgressTracker x = Graphs.twoRequests();
        due("20 is less, but can't be delivered", x.deliver(0, 1, 0, 0), 100);
        due("now none can", x.deliver(0, 1, 0, 0), NOT);
        ProgressTracker y = Graphs.twoRequests();
        y.process(1, 1, 0, 0, 0);
        y.receive(0, 99);
        due("both can: as numbers 20 is less", y.deliver(0, 1, 0, 0), 20);
        due("then the other one", y.deliver(0, 1, 0, 0), 100);
        ProgressTracker z = Graphs.requestsOf(2);
        z.close(0);
        due("equal ones", z.deliver(0, 1, 0, 0), 0);
        due("one at a time", z.requests(0, 1), 1);
        due("then the other one", z.deliver(0, 1, 0, 0), 0);
    }

    @Holds(promise = 12, sentence = "Returns the timestamp of the notification")
    static void p12GreatestAnswer() {
        ProgressTracker x = new ProgressTracker();
        int[] depths = {0, 1, 0, 0, 0, 2};
        for (int node = 0; node < 6; node++) {
            x.addNode(depths[node], node == 0 ? 1 : 0);
        }
        x.addEdge(0, 1, 0);
        x.addEdge(1, 1, 1);
        x.addEdge(1, 5, 0);
        x.addEdge(5, 5, 1);
        for (int epoch = 0; epoch < 9; epoch++) {
            x.advance(0);
        }
        x.send(0, 0);
        x.close(0);
        x.process(0, 0, 2, 0, 0);
        for (int round = 1; round <= 9; round++) {
            due("outer loop", x.process(0, 1, round == 9 ? 4 : 2, 0, 0), 900 + 10 * round);
        }
        x.process(0, 2, 8, 0, 0);
        for (int round = 1; round <= 9; round++) {
            due("inner loop", x.process(0, 3, round == 9 ? 0 : 8, 0, round == 9 ? 1 : 0), 990 + round);
        }
        due("the greatest timestamp at the greatest node", x.deliver(0, 5, 8, 1), 999);
        due("its message", x.messageTime(1, 3, 0), 999);
        due("which is dropped", x.process(1, 3, 8, 0, 1), NONE);
        due("no violation", x.violations(), 0);
    }

    @Holds(promise = 12, sentence = "Undoable.")
    static void p12Undoable() {
        ProgressTracker x = oneDeliverable();
        long before = x.digest();
        x.deliver(0, 1, 6, 1);
        due("undo", x.undo(), 2);
        due("one saved state less", x.digest(), before - 1);
        due("it can be delivered again", x.deliver(0, 1, 0, 0), 0);
        due("and is counted once", x.delivered(), 1);
    }

    @Holds(promise = 12, sentence = {"or outputs contains an edge that does not exist; NOT_POSSIBLE if there is no such notification", "FULL if one of the edges of outputs has 12 messages for the target."})
    static void p12OrderOfChecks() {
        refused("worker before notification", OUT, Graphs::loop, x -> x.deliver(2, 1, 0, 0));
        refused("target before notification", OUT, Graphs::loop, x -> x.deliver(0, 1, 0, 2));
        refused("outputs before notification", OUT, Graphs::loop, x -> x.deliver(0, 1, 8, 0));
        refused("a missing output before one elsewhere", OUT, WorkSentenceTests::oneDeliverable, x -> x.deliver(0, 1, 9, 0));
        refused("notification before full", NOT, () -> Graphs.feedbackWith(12, 1), x -> x.deliver(0, 1, 2, 1));
        refused("outputs elsewhere before full", NOT, () -> deliverableWith(12), x -> x.deliver(0, 1, 3, 1));
        refused("range before full", OUT, () -> deliverableWith(12), x -> x.deliver(0, 1, 10, 1));
    }

    // ---- what the description says of delivering

    @Holds(promise = 0, sentence = {"Delivering a notification: a worker takes one of its requested notifications, for a timestamp t at a node n, out of its requests, and puts a message with the timestamp t on each edge of a chosen set of edges that start at n, in ascending order, for a chosen worker.", "Updates: +1 for t at each of these edges;", "then -1 for t at n."})
    static void p00Delivering() {
        ProgressTracker x = oneDeliverable();
        x.receive(1, 99);
        due("deliver", x.deliver(0, 1, 6, 1), 0);
        due("out of its requests", x.requests(0, 1), 0);
        due("on edge 1", x.messageTime(1, 1, 0), 0);
        due("on edge 2", x.messageTime(1, 2, 0), 0);
        due("three updates", x.pending(1), 3);
        int[] locations = {7, 8, 1};
        int[] before = {1000, 1000, 1001};
        int[] after = {1001, 1001, 1000};
        for (int i = 0; i < 3; i++) {
            due("own view at once", x.count(0, locations[i], 0), after[i]);
            due("update " + i + " has not come", x.count(1, locations[i], 0), before[i]);
            due("receive", x.receive(1, 1), 1);
            due("update " + i, x.count(1, locations[i], 0), after[i]);
        }
        ProgressTracker y = oneDeliverable();
        y.receive(1, 99);
        y.deliver(0, 1, 0, 0);
        due("without outputs", y.pending(1), 1);
    }

    @Holds(promise = 0, sentence = "A notification for t at n can be delivered by a worker if (t, n) is on the frontier of its view.")
    static void p00CanBeDelivered() {
        ProgressTracker x = twoMessages();
        x.process(1, 0, 0, 0, 1);
        x.process(0, 0, 0, 0, 0);
        x.close(0);
        due("in view 0 it is not known", x.count(0, 1, 0), 1000);
        due("in view 1 the input is open", x.deliver(1, 1, 0, 0), NOT);
        x.receive(1, 3);
        due("in view 1 the input is still open", x.deliver(1, 1, 0, 0), NOT);
        x.receive(1, 1);
        due("in view 1 it is on the frontier", x.frontier(1, 0), 1000);
        due("so it can be delivered", x.deliver(1, 1, 0, 0), 0);
    }

    @Holds(promise = 0, sentence = {"(If both workers, or one worker several times, have requested it, the count is greater than 1;", "this does not matter.)"})
    static void p00RequestedSeveralTimes() {
        ProgressTracker x = twoMessages();
        x.send(0, 0);
        x.process(0, 0, 0, 0, 1);
        x.process(0, 0, 0, 0, 1);
        x.process(1, 0, 0, 0, 1);
        x.close(0);
        x.receive(0, 99);
        x.receive(1, 99);
        due("three requests", x.count(0, 1, 0), 1003);
        due("worker 1", x.deliver(1, 1, 0, 0), 0);
        due("worker 0", x.deliver(0, 1, 0, 0), 0);
        due("worker 0 again", x.deliver(0, 1, 0, 0), 0);
        due("all three", x.delivered(), 3);
    }

    // ---- promise 13

    @Holds(promise = 13, sentence = {"`worker`: 0 or 1", "OUT_OF_RANGE if an argument is out of range."})
    static void p13Worker() {
        for (int worker : Bounds.outside(0, 1)) {
            refused("worker " + worker, OUT, Graphs::twoRequests, x -> x.receive(worker, 1));
        }
        due("worker 0", Graphs.twoRequests().receive(0, 1), 0);
        due("worker 1", Graphs.twoRequests().receive(1, 1), 1);
    }

    @Holds(promise = 13, sentence = {"`count`: greatest number of updates to receive, 1 to 99", "OUT_OF_RANGE if an argument is out of range."})
    static void p13Count() {
        for (int count : Bounds.outside(1, 99)) {
            refused("count " + count, OUT, Graphs::twoRequests, x -> x.receive(1, count));
        }
        refused("count -1", OUT, Graphs::twoRequests, x -> x.receive(1, -1));
        due("the least", Graphs.twoRequests().receive(1, 1), 1);
        due("the greatest", Graphs.twoRequests().receive(1, 99), 17);
    }

    @Holds(promise = 13, sentence = {"Lets a worker receive updates from its queue.", "Returns the number of updates that were received"})
    static void p13Answer() {
        due("an empty queue", Graphs.line().receive(1, 99), 0);
        due("fewer than there are", Graphs.twoRequests().receive(1, 16), 16);
        due("as many as there are", Graphs.twoRequests().receive(1, 17), 17);
        due("more than there are", Graphs.twoRequests().receive(1, 18), 17);
        ProgressTracker x = Graphs.line();
        for (int i = 0; i < 50; i++) {
            x.send(0, 0);
            x.process(0, 0, 0, 0, 0);
        }
        due("99 of 100", x.receive(1, 99), 99);
        due("one is left", x.pending(1), 1);
        due("the last one", x.receive(1, 99), 1);
        due("none is left", x.receive(1, 99), 0);
    }

    @Holds(promise = 13, sentence = "Undoable.")
    static void p13Undoable() {
        ProgressTracker x = Graphs.twoRequests();
        long before = x.digest();
        x.receive(1, 5);
        due("undo", x.undo(), 2);
        due("one saved state less", x.digest(), before - 1);
        due("another receipt", x.receive(1, 2), 2);
        due("undo", x.undo(), 2);
        due("in order: +1 for 0 at edge 0", x.receive(1, 1) + x.count(1, 6, 0), 1002);
        due("the same once more", x.receive(1, 1) + x.count(1, 6, 0), 1003);
        due("then epoch 1", x.receive(1, 1) + x.count(1, 0, 100), 1002);
        x.undo();
        x.undo();
        x.undo();
        due("back in the queue", x.receive(1, 99), 17);
        ProgressTracker y = new ProgressTracker();
        due("nothing to receive", y.receive(0, 1), 0);
        due("saved all the same", y.undo(), 0);
    }

    @Holds(promise = 0, sentence = {"Two workers, 0 and 1, perform events, and each event makes a list of progress updates;", "an update is a pointstamp and a change, +1 or -1."})
    static void p00Updates() {
        ProgressTracker x = Graphs.loop();
        int[] made = new int[6];
        x.send(0, 1);
        made[0] = x.pending(1);
        x.advance(0);
        made[1] = x.pending(1);
        x.process(1, 0, 6, 1, 1);
        made[2] = x.pending(0);
        x.process(1, 2, 0, 0, 0);
        made[3] = x.pending(0);
        x.close(0);
        made[4] = x.pending(1);
        x.receive(1, 99);
        x.process(1, 1, 0, 0, 0);
        x.deliver(1, 1, 0, 0);
        made[5] = x.pending(0);
        int[] due = {1, 3, 4, 5, 4, 7};
        for (int i = 0; i < 6; i++) {
            due("updates", made[i], due[i]);
        }
    }

    @Holds(promise = 0, sentence = "for the other worker the updates are put at the end of a queue, and they reach its view only when it receives them, in order.")
    static void p00LongQueue() {
        // In each epoch three messages and an advance: 8 updates, of which worker 1 receives 5, so that the queue grows.
        ProgressTracker x = Graphs.line();
        List<int[]> waiting = new ArrayList<>();
        Map<Integer, Integer> view = new TreeMap<>(Map.of(0, 1));
        for (int epoch = 0; epoch < 9; epoch++) {
            for (int i = 0; i < 3; i++) {
                due("send", x.send(0, 0), 100 * epoch);
                due("process", x.process(0, 0, 0, 0, 0), 100 * epoch);
                waiting.add(new int[] {6000 + 100 * epoch, 1});
                waiting.add(new int[] {6000 + 100 * epoch, -1});
            }
            due("advance", x.advance(0), epoch + 1);
            waiting.add(new int[] {100 * epoch + 100, 1});
            waiting.add(new int[] {100 * epoch, -1});
            receiveAndCompare(x, 5, waiting, view);
        }
        for (int i = 0; i < 27; i++) {
            receiveAndCompare(x, 1, waiting, view);
        }
        due("all has come", x.pending(1), 0);
        due("undo", x.undo(), 2);
        due("the last one is back", x.count(1, 0, 800), 1001);
    }

    @Holds(promise = 13, sentence = "Undoable.")
    static void p13UndoneAtEachLength() {
        for (int waiting = 0; waiting < 80; waiting++) {
            ProgressTracker x = Graphs.line();
            for (int i = 0; i < waiting; i++) {
                due("one update", i % 2 == 0 ? x.send(0, 0) : x.process(0, 0, 0, 0, 0), 0);
            }
            due("receive", x.receive(1, 99), waiting);
            x.undo();
            due("all wait again", x.pending(1), waiting);
            due("one more is put behind them", x.send(0, 0), 0);
            due("all but that", waiting == 0 ? 0 : x.receive(1, waiting), waiting);
            due("before it", x.count(1, 6, 0), 1000 + waiting % 2);
            due("then that one", x.receive(1, 99), 1);
            due("with it", x.count(1, 6, 0), 1001 + waiting % 2);
        }
    }

    private static void receiveAndCompare(ProgressTracker x, int count, List<int[]> waiting, Map<Integer, Integer> view) {
        due("receive", x.receive(1, count), count);
        for (int i = 0; i < count; i++) {
            int[] update = waiting.remove(0);
            view.merge(update[0], update[1], Integer::sum);
            int last = update[0];
            if (i == count - 1) {
                due("count", x.count(1, last / 1000, last % 1000), 1000 + view.get(last));
            }
        }
        due("pending", x.pending(1), waiting.size());
        due("active", x.active(1), view.values().stream().filter(n -> n > 0).count());
    }

    @Holds(promise = 0, sentence = {"The worker that performs an event applies the updates to its own view at once;", "for the other worker the updates are put at the end of a queue, and they reach its view only when it receives them, in order."})
    static void p00Queues() {
        ProgressTracker x = Graphs.line();
        x.send(0, 1);
        x.advance(0);
        x.send(0, 1);
        due("at once", x.count(0, 6, 0) + x.count(0, 6, 100) + x.count(0, 0, 100), 3003);
        due("not yet", x.count(1, 6, 0), 1000);
        x.receive(0, 99);
        due("not by what the other worker receives", x.count(1, 6, 0), 1000);
        int[][] order = {{6, 0, 1001}, {0, 100, 1001}, {0, 0, 1000}, {6, 100, 1001}};
        for (int[] update : order) {
            DUE.holds("not yet", x.count(1, update[0], update[1]) != update[2]);
            x.receive(1, 1);
            due("in order", x.count(1, update[0], update[1]), update[2]);
        }
    }
}
