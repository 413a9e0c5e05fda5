import java.util.function.Supplier;
import java.util.function.ToIntFunction;

/** The sentences about values: promises 14 to 23, and what the description says of views, frontiers and violations. */
public final class ValueSentenceTests {
    private static final int OUT = ProgressTracker.OUT_OF_RANGE;
    private static final int NOT = ProgressTracker.NOT_POSSIBLE;
    private static final int NONE = ProgressTracker.NONE;

    private static final Due DUE = new Due("ValueSentenceTests");

    public static void main(String[] args) throws Exception {
        Sentences.run(ValueSentenceTests.class, DUE);
    }

    private static void due(String what, long got, long want) {
        DUE.same(what, got, want);
    }

    private static void refused(String what, Supplier<ProgressTracker> made, ToIntFunction<ProgressTracker> call) {
        Twins.refused(DUE, what, OUT, made, call);
    }

    private static void asked(String what, int answer, Supplier<ProgressTracker> made, ToIntFunction<ProgressTracker> call) {
        Twins.asked(DUE, what, answer, made, call);
    }

    // ---- promise 14

    @Holds(promise = 14, sentence = {"`worker`: 0 or 1", "OUT_OF_RANGE if there is no such worker"})
    static void p14Worker() {
        for (int worker : Bounds.outside(0, 1)) {
            refused("worker " + worker, Graphs::twoRequests, x -> x.messages(worker, 1));
        }
        asked("worker 0", 0, Graphs::twoRequests, x -> x.messages(0, 1));
        asked("worker 1", 1, Graphs::twoRequests, x -> x.messages(1, 1));
    }

    @Holds(promise = 14, sentence = {"`edge`: number of an edge", "OUT_OF_RANGE if there is no such worker or edge."})
    static void p14Edge() {
        for (int edge : Bounds.outside(0, 2)) {
            refused("edge " + edge, Graphs::twoRequests, x -> x.messages(0, edge));
        }
        refused("an eleventh edge", Graphs::tenEdges, x -> x.messages(0, 10));
        ProgressTracker x = Graphs.tenEdges();
        x.send(9, 1);
        due("the greatest", x.messages(1, 9), 1);
        due("the least", x.messages(1, 0), 0);
    }

    @Holds(promise = 14, sentence = {"Returns the number of messages of a worker on an edge.", "Returns the number of messages"})
    static void p14Answer() {
        asked("none", 0, Graphs::loop, x -> x.messages(0, 0));
        asked("as many as can be", 12, () -> Graphs.feedbackWith(12, 1), x -> x.messages(1, 1));
        ProgressTracker x = Graphs.feedbackWith(12, 1);
        for (int left = 11; left >= 0; left--) {
            x.process(1, 1, 0, 0, 0);
            due("one less", x.messages(1, 1), left);
        }
        x.process(1, 1, 0, 0, 0);
        due("never below none", x.messages(1, 1), 0);
    }

    // ---- promise 15

    @Holds(promise = 15, sentence = {"`worker`: 0 or 1", "`edge`: number of an edge", "OUT_OF_RANGE if there is no such worker or edge"})
    static void p15WorkerAndEdge() {
        for (int worker : Bounds.outside(0, 1)) {
            refused("worker " + worker, Graphs::twoRequests, x -> x.messageTime(worker, 1, 0));
        }
        for (int edge : Bounds.outside(0, 2)) {
            refused("edge " + edge, Graphs::twoRequests, x -> x.messageTime(1, edge, 0));
        }
        refused("an eleventh edge", Graphs::tenEdges, x -> x.messageTime(0, 10, 0));
        ProgressTracker x = Graphs.tenEdges();
        x.advance(0);
        x.send(9, 0);
        due("the greatest edge", x.messageTime(0, 9, 0), 100);
    }

    @Holds(promise = 15, sentence = "or index is negative")
    static void p15NegativeIndex() {
        refused("-1", Graphs::twoRequests, x -> x.messageTime(1, 1, -1));
        refused("the least of all", Graphs::twoRequests, x -> x.messageTime(1, 1, Integer.MIN_VALUE));
        refused("no message is there", Graphs::loop, x -> x.messageTime(0, 0, -1));
    }

    @Holds(promise = 15, sentence = "NONE if there are not so many messages")
    static void p15NotSoMany() {
        asked("no message", NONE, Graphs::loop, x -> x.messageTime(0, 0, 0));
        asked("behind the only one", NONE, Graphs::twoRequests, x -> x.messageTime(1, 1, 1));
        asked("far behind", NONE, Graphs::twoRequests, x -> x.messageTime(1, 1, Integer.MAX_VALUE));
        asked("behind the twelfth", NONE, () -> Graphs.feedbackWith(12, 0), x -> x.messageTime(0, 1, 12));
        asked("the twelfth", 0, () -> Graphs.feedbackWith(12, 0), x -> x.messageTime(0, 1, 11));
        asked("of the other worker", NONE, Graphs::twoRequests, x -> x.messageTime(0, 1, 0));
        ProgressTracker x = Graphs.feedbackWith(12, 0);
        x.process(0, 1, 0, 0, 0);
        due("one has been taken", x.messageTime(0, 1, 11), NONE);
        due("the last one now", x.messageTime(0, 1, 10), 0);
    }

    @Holds(promise = 15, sentence = {"`index`: index of the message, 0 for the oldest", "Returns the timestamp of a message of a worker on an edge, before the move.", "Returns the timestamp"})
    static void p15Answer() {
        ProgressTracker x = Graphs.line();
        for (int epoch = 0; epoch <= 9; epoch++) {
            x.send(0, 0);
            x.advance(0);
        }
        for (int epoch = 0; epoch <= 9; epoch++) {
            due("the oldest first", x.messageTime(0, 0, epoch), 100 * epoch);
        }
        x.process(0, 0, 0, 0, 0);
        due("the oldest now", x.messageTime(0, 0, 0), 100);
        ProgressTracker y = Graphs.nineRounds(Graphs.loop());
        due("before the move, which is impossible", y.messageTime(0, 1, 0), 90);
        y.undo();
        y.process(0, 1, 4, 0, 0);
        due("before the move, which resets a counter", y.messageTime(0, 2, 0), 90);
    }

    // ---- promise 16

    @Holds(promise = 16, sentence = {"`worker`: 0 or 1", "`node`: number of a node", "OUT_OF_RANGE if there is no such worker or node."})
    static void p16WorkerAndNode() {
        for (int worker : Bounds.outside(0, 1)) {
            refused("worker " + worker, Graphs::twoRequests, x -> x.requests(worker, 1));
        }
        for (int node : Bounds.outside(0, 2)) {
            refused("node " + node, Graphs::twoRequests, x -> x.requests(0, node));
        }
        refused("a seventh node", Graphs::largest, x -> x.requests(0, 6));
        asked("the least", 0, Graphs::twoRequests, x -> x.requests(0, 0));
        asked("the greatest", 0, Graphs::largest, x -> x.requests(1, 5));
    }

    @Holds(promise = 16, sentence = {"Returns the number of requests of a worker at a node.", "Returns the number of requests (equal ones are counted each)"})
    static void p16Answer() {
        asked("none", 0, Graphs::loop, x -> x.requests(0, 1));
        asked("different ones", 2, Graphs::twoRequests, x -> x.requests(0, 1));
        asked("none of the other worker", 0, Graphs::twoRequests, x -> x.requests(1, 1));
        asked("none at another node", 0, Graphs::twoRequests, x -> x.requests(0, 2));
        asked("as many equal ones as can be", 12, () -> Graphs.requestsOf(12), x -> x.requests(0, 1));
        asked("as many of worker 1", 12, () -> Graphs.requestsOf(12, 1), x -> x.requests(1, 1));
        ProgressTracker x = Graphs.requestsOf(12);
        x.close(0);
        for (int left = 11; left >= 0; left--) {
            x.deliver(0, 1, 0, 0);
            due("one less", x.requests(0, 1), left);
        }
    }

    // ---- promise 17

    @Holds(promise = 17, sentence = {"`worker`: 0 or 1", "`node`: number of a node", "OUT_OF_RANGE if there is no such worker or node."})
    static void p17WorkerAndNode() {
        for (int worker : Bounds.outside(0, 1)) {
            refused("worker " + worker, Graphs::twoRequests, x -> x.deliverable(worker, 1));
        }
        for (int node : Bounds.outside(0, 2)) {
            refused("node " + node, Graphs::twoRequests, x -> x.deliverable(0, node));
        }
        refused("a seventh node", Graphs::largest, x -> x.deliverable(0, 6));
        asked("the least", NONE, Graphs::twoRequests, x -> x.deliverable(0, 0));
        asked("the greatest", NONE, Graphs::largest, x -> x.deliverable(1, 5));
    }

    @Holds(promise = 17, sentence = "NONE if no notification can be delivered")
    static void p17None() {
        asked("none is requested", NONE, Graphs::loop, x -> x.deliverable(0, 1));
        asked("none can be delivered", NONE, () -> Graphs.requestsOf(12), x -> x.deliverable(0, 1));
        asked("requested by the other worker", NONE, Graphs::twoRequests, x -> x.deliverable(1, 1));
        // Node 1 of worker 1 is on the frontier, but the request is one of worker 0.
        ProgressTracker x = Graphs.requestsOf(1);
        x.close(0);
        x.receive(1, 99);
        due("on the frontier of worker 1", x.frontier(1, 0), 1000);
        due("not requested by worker 1", x.deliverable(1, 1), NONE);
        due("requested by worker 0", x.deliverable(0, 1), 0);
    }

    @Holds(promise = 17, sentence = {"Returns the timestamp of the notification that deliver would deliver.", "Returns the timestamp"})
    static void p17Answer() {
        asked("20 can't be delivered", 100, Graphs::twoRequests, x -> x.deliverable(0, 1));
        ProgressTracker x = Graphs.twoRequests();
        x.process(1, 1, 0, 0, 0);
        x.receive(0, 99);
        due("20 can", x.deliverable(0, 1), 20);
        due("deliver does so", x.deliver(0, 1, 0, 0), 20);
        due("then 100", x.deliverable(0, 1), 100);
        due("deliver does so", x.deliver(0, 1, 0, 0), 100);
        due("then none", x.deliverable(0, 1), NONE);
        ProgressTracker y = Graphs.nineRounds(Graphs.loop());
        y.undo();
        y.process(0, 1, 0, 0, 1);
        y.close(0);
        due("the greatest counter", y.deliverable(0, 1), 90);
    }

    // ---- promise 18

    @Holds(promise = 18, sentence = {"`worker`: 0 or 1", "`location`: a location", "OUT_OF_RANGE if there is no such worker or location"})
    static void p18WorkerAndLocation() {
        for (int worker : Bounds.outside(0, 1)) {
            refused("worker " + worker, Graphs::twoRequests, x -> x.count(worker, 0, 0));
        }
        int[] missing = {-1, 3, 5, 9, 15, 16, Integer.MIN_VALUE, Integer.MAX_VALUE};
        for (int location : missing) {
            refused("location " + location, Graphs::twoRequests, x -> x.count(0, location, 0));
        }
        refused("location 16 of the largest graph", Graphs::largest, x -> x.count(0, 16, 0));
        asked("the least", 1001, Graphs::largest, x -> x.count(0, 0, 0));
        asked("the greatest node", 1000, Graphs::largest, x -> x.count(0, 5, 0));
        asked("the least edge", 1000, Graphs::largest, x -> x.count(1, 6, 0));
        asked("the greatest", 1000, Graphs::largest, x -> x.count(1, 15, 999));
    }

    @Holds(promise = 18, sentence = {"`time`: a timestamp at the location", "or time is not a timestamp at the location."})
    static void p18Time() {
        for (int time : Bounds.outside(0, 999)) {
            refused("time " + time, Graphs::largest, x -> x.count(0, 15, time));
        }
        refused("a counter at depth 0", Graphs::loop, x -> x.count(0, 0, 10));
        refused("a counter at an edge from depth 0", Graphs::loop, x -> x.count(0, 6, 10));
        refused("a second counter at depth 1", Graphs::loop, x -> x.count(0, 1, 1));
        refused("a second counter at an edge from depth 1", Graphs::loop, x -> x.count(0, 8, 1));
    }

    @Holds(promise = 18, sentence = {"Returns a count in the view of a worker.", "Returns 1000 plus the count"})
    static void p18Answer() {
        asked("0", 1000, Graphs::twoRequests, x -> x.count(0, 6, 0));
        asked("1", 1001, Graphs::twoRequests, x -> x.count(0, 1, 20));
        asked("12", 1012, () -> Graphs.requestsOf(12), x -> x.count(0, 1, 0));
        ProgressTracker x = Graphs.line();
        for (int below = 1; below <= 100; below++) {
            x.send(0, 1);
            x.process(1, 0, 0, 0, 0);
            due("below 0", x.count(1, 6, 0), 1000 - below);
        }
        due("above 12", x.count(0, 6, 0), 1100);
    }

    @Holds(promise = 0, sentence = "Counts in a view can be negative for a while.")
    static void p00NegativeCounts() {
        ProgressTracker x = Graphs.line();
        x.send(0, 1);
        x.send(0, 1);
        x.process(1, 0, 0, 0, 0);
        x.process(1, 0, 0, 0, 0);
        due("-2", x.count(1, 6, 0), 998);
        due("which is not active", x.active(1), 1);
        due("nor on the frontier", x.frontier(1, -1), 1);
        due("where the input alone is", x.frontier(1, 0), 0);
        due("and nothing else", x.frontier(1, 1), NONE);
        x.receive(1, 1);
        due("-1", x.count(1, 6, 0), 999);
        x.receive(1, 1);
        due("0", x.count(1, 6, 0), 1000);
        due("the other view", x.count(0, 6, 0), 1002);
    }

    @Holds(promise = 0, sentence = "Each worker has a view, which has a count for each pointstamp")
    static void p00ManyPointstamps() {
        // One message on each of ten edges in each of ten epochs, and the input: 101 pointstamps.
        ProgressTracker x = Graphs.tenEdges();
        for (int epoch = 0; epoch <= 9; epoch++) {
            for (int edge = 9; edge >= 0; edge--) {
                x.send(edge, (edge + epoch) % 2);
            }
            x.advance(0);
        }
        due("worker 0", x.active(0), 101);
        due("all 118 updates", x.receive(1, 99) + x.receive(1, 99), 118);
        due("worker 1", x.active(1), 101);
        for (int edge = 0; edge < 10; edge++) {
            for (int epoch = 0; epoch <= 9; epoch++) {
                due("count", x.count(1, 6 + edge, 100 * epoch), 1001);
            }
        }
        due("the first message of each edge and the input", x.frontier(0, -1), 11);
        due("edge 9", x.frontier(1, 10), 15000);
        takeMessagesFromTheLastEdge();
        x.undo();
        due("99 updates are 8 epochs of 12 and 3 messages", x.active(1), 8 * 10 + 1 + 3);
    }

    private static void takeMessagesFromTheLastEdge() {
        ProgressTracker x = Graphs.tenEdges();
        for (int epoch = 0; epoch <= 9; epoch++) {
            for (int edge = 7; edge < 10; edge++) {
                x.send(edge, 0);
            }
            x.advance(0);
        }
        for (int epoch = 0; epoch <= 9; epoch++) {
            due("process", x.process(0, 9, 0, 0, 0), 100 * epoch);
            due("no longer counted", x.count(0, 15, 100 * epoch), 1000);
            due("the others are", x.active(0), 30 - epoch);
        }
        due("the last one of edge 8", x.count(0, 14, 900), 1001);
    }

    @Holds(promise = 18, sentence = "Returns 1000 plus the count")
    static void p18FirstNode() {
        ProgressTracker x = Graphs.lateInput();
        x.send(1, 0);
        x.process(0, 1, 0, 0, 1);
        due("worker 0 requested 0 at node 0", x.count(0, 0, 0), 1001);
        x.receive(1, 99);
        due("worker 1 knows", x.count(1, 0, 0), 1001);
        x.close(1);
        x.deliver(0, 0, 0, 0);
        x.receive(1, 99);
        due("delivered", x.count(1, 0, 0), 1000);
    }

    // ---- promise 19

    @Holds(promise = 19, sentence = {"`worker`: 0 or 1", "OUT_OF_RANGE if there is no such worker."})
    static void p19Worker() {
        for (int worker : Bounds.outside(0, 1)) {
            refused("worker " + worker, Graphs::twoRequests, x -> x.active(worker));
        }
        asked("worker 0", 4, Graphs::twoRequests, x -> x.active(0));
        asked("worker 1", 1, Graphs::twoRequests, x -> x.active(1));
    }

    @Holds(promise = 19, sentence = {"Counts the active pointstamps in the view of a worker.", "Returns the number of active pointstamps"})
    static void p19Answer() {
        asked("none", 0, () -> Graphs.nodes(0, 1), x -> x.active(0));
        asked("12 requests are one pointstamp, the input is one", 2, () -> Graphs.requestsOf(12), x -> x.active(0));
        ProgressTracker x = new ProgressTracker();
        for (int node = 0; node < 6; node++) {
            x.addNode(0, 1);
            due("an input more", x.active(1), node + 1);
        }
        for (int node = 0; node < 6; node++) {
            x.close(node);
            due("an input less", x.active(0), 5 - node);
        }
        due("worker 1 does not know", x.active(1), 6);
    }

    @Holds(promise = 0, sentence = "A pointstamp is active in a view if its count is greater than 0.")
    static void p00Active() {
        ProgressTracker x = Graphs.line();
        x.send(0, 1);
        x.send(0, 1);
        x.process(1, 0, 0, 0, 0);
        due("-1 and the input", x.active(1), 1);
        x.receive(1, 1);
        due("0 and the input", x.active(1), 1);
        x.receive(1, 1);
        due("1 and the input", x.active(1), 2);
        due("2 and the input", x.active(0), 2);
    }

    // ---- promise 20

    @Holds(promise = 20, sentence = {"`worker`: 0 or 1", "OUT_OF_RANGE if there is no such worker"})
    static void p20Worker() {
        for (int worker : Bounds.outside(0, 1)) {
            refused("worker " + worker, Graphs::twoRequests, x -> x.frontier(worker, 0));
            refused("worker " + worker, Graphs::twoRequests, x -> x.frontier(worker, -1));
        }
        asked("worker 0", 200, Graphs::twoRequests, x -> x.frontier(0, 0));
        asked("worker 1", 0, Graphs::twoRequests, x -> x.frontier(1, 0));
    }

    @Holds(promise = 20, sentence = "or index is less than -1.")
    static void p20Index() {
        refused("-2", Graphs::twoRequests, x -> x.frontier(0, -2));
        refused("the least of all", Graphs::twoRequests, x -> x.frontier(0, Integer.MIN_VALUE));
        refused("-2 of an empty frontier", ProgressTracker::new, x -> x.frontier(0, -2));
    }

    @Holds(promise = 20, sentence = {"`index`: index in this order, from 0, or -1 for the number of pointstamps on the frontier", "or the number of pointstamps if index is -1"})
    static void p20Number() {
        asked("three", 3, Graphs::twoRequests, x -> x.frontier(0, -1));
        asked("one", 1, Graphs::line, x -> x.frontier(1, -1));
        asked("none", 0, ProgressTracker::new, x -> x.frontier(0, -1));
        ProgressTracker x = new ProgressTracker();
        for (int node = 0; node < 6; node++) {
            x.addNode(0, 1);
        }
        due("six", x.frontier(0, -1), 6);
        for (int node = 0; node < 6; node++) {
            x.close(node);
        }
        due("all closed", x.frontier(0, -1), 0);
    }

    @Holds(promise = 20, sentence = "NONE if there are not so many")
    static void p20NotSoMany() {
        asked("the last one", 7000, Graphs::twoRequests, x -> x.frontier(0, 2));
        asked("behind the last one", NONE, Graphs::twoRequests, x -> x.frontier(0, 3));
        asked("active, but not on the frontier", NONE, () -> Graphs.requestsOf(1), x -> x.frontier(0, 1));
        asked("far behind", NONE, Graphs::twoRequests, x -> x.frontier(0, Integer.MAX_VALUE));
        asked("empty", NONE, ProgressTracker::new, x -> x.frontier(1, 0));
    }

    @Holds(promise = 20, sentence = {"Returns a pointstamp on the frontier of the view of a worker.", "The pointstamps on the frontier are ordered by their locations, and those at the same location by their timestamps as numbers.", "Returns 1000 * location + timestamp"})
    static void p20Order() {
        ProgressTracker x = Graphs.twoRequests();
        x.process(1, 1, 0, 0, 0);
        x.receive(0, 99);
        int[] due = {200, 1020, 1100, NONE};
        for (int index = 0; index < due.length; index++) {
            due("at one location", x.frontier(0, index), due[index]);
        }
        ProgressTracker y = Graphs.tenEdges();
        for (int edge = 9; edge >= 0; edge--) {
            y.send(edge, 0);
        }
        y.close(0);
        for (int edge = 0; edge < 10; edge++) {
            due("by location", y.frontier(0, edge), 6000 + 1000 * edge);
        }
        due("all", y.frontier(0, -1), 10);
    }

    @Holds(promise = 20, sentence = "Returns 1000 * location + timestamp")
    static void p20GreatestAnswer() {
        ProgressTracker x = Graphs.largest();
        for (int epoch = 0; epoch < 9; epoch++) {
            x.advance(0);
        }
        x.send(0, 0);
        x.close(0);
        x.process(0, 0, 2, 0, 0);
        x.process(0, 1, 1 << 9, 0, 0);
        for (int round = 1; round <= 9; round++) {
            due("round", x.process(0, 9, 1 << 9, 0, 0), 900 + round);
        }
        due("location 15", x.frontier(0, 0), 15909);
        due("the only one", x.frontier(0, -1), 1);
    }

    @Holds(promise = 0, sentence = "A pointstamp is on the frontier of a view if it is active, and no other active pointstamp could result in it.")
    static void p00Frontier() {
        ProgressTracker x = Graphs.feedbackWith(1, 1);
        due("active are the input and the edge", x.active(0), 2);
        due("the input could result in the other one", x.frontier(0, -1), 1);
        x.advance(0);
        due("from epoch 1 it can't", x.frontier(0, -1), 2);
        x.send(0, 0);
        due("it could result in its own message", x.frontier(0, -1), 2);
        x.close(0);
        due("without the input", x.frontier(0, 0), 6100);
        due("the edge could result in itself, but is no other", x.frontier(0, 1), 7000);
        ProgressTracker y = Graphs.requestsOf(2);
        y.close(0);
        due("a count of 2 is no other pointstamp", y.frontier(0, 0), 1000);
    }

    @Holds(promise = 0, sentence = "no other active pointstamp could result in it.")
    static void p00NotTransitive() {
        // Worker 0 has 9 and 10 before an inner feedback edge, and a request for 11 behind it: 9 could result in 10,
        // 10 could result in 11 at that node, but 9 can't move along the edge. All the same 10 holds back 11.
        ProgressTracker x = new ProgressTracker();
        x.addNode(0, 1);
        x.addNode(1, 0);
        x.addNode(2, 0);
        x.addEdge(0, 1, 0);
        x.addEdge(1, 1, 1);
        x.addEdge(1, 2, 0);
        x.addEdge(2, 2, 1);
        x.send(0, 0);
        x.close(0);
        x.process(0, 0, 4 | 2, 0, 0);
        x.process(0, 1, 4, 0, 0);
        x.process(0, 2, 8, 0, 0);
        for (int round = 1; round <= 9; round++) {
            due("9 at the inner edge", x.process(0, 3, 8, 0, 0), round);
        }
        x.process(0, 2, 8, 0, 0);
        due("active", x.active(0), 2);
        due("9 could result in 10 at the edge", x.couldResultIn(9, 9, 9, 10), 1);
        due("so 9 alone is on the frontier", x.frontier(0, -1), 1);
        due("9", x.frontier(0, 0), 9009);
        due("9 is dropped", x.process(0, 3, 0, 0, 0), NONE);
        due("then 10 is on it", x.frontier(0, 0), 9010);
    }

    // ---- promise 21

    @Holds(promise = 21, sentence = {"`worker`: 0 or 1", "OUT_OF_RANGE if there is no such worker."})
    static void p21Worker() {
        for (int worker : Bounds.outside(0, 1)) {
            refused("worker " + worker, Graphs::twoRequests, x -> x.pending(worker));
        }
        asked("worker 0", 0, Graphs::twoRequests, x -> x.pending(0));
        asked("worker 1", 17, Graphs::twoRequests, x -> x.pending(1));
    }

    @Holds(promise = 21, sentence = {"Returns the number of updates in the queue of a worker.", "Returns the number of updates"})
    static void p21Answer() {
        asked("empty", 0, Graphs::line, x -> x.pending(1));
        ProgressTracker x = Graphs.twoRequests();
        x.receive(1, 16);
        due("one is left", x.pending(1), 1);
        x.receive(1, 1);
        due("none is left", x.pending(1), 0);
        x.receive(1, 1);
        due("never below none", x.pending(1), 0);
    }

    // ---- promises 22 and 23

    @Holds(promise = 22, sentence = {"Returns the number of notifications that have been delivered.", "Returns the number of notifications, both workers together."})
    static void p22Answer() {
        asked("none", 0, Graphs::twoRequests, x -> x.delivered());
        ProgressTracker x = Graphs.loop();
        for (int worker = 0; worker < 2; worker++) {
            x.send(0, worker);
            x.send(0, worker);
            x.process(worker, 0, 0, 0, 1);
            x.process(worker, 0, 0, 0, 1);
        }
        x.close(0);
        x.receive(0, 99);
        x.receive(1, 99);
        for (int i = 0; i < 4; i++) {
            due("deliver", x.deliver(i % 2, 1, 0, 0), 0);
            due("both together, equal ones each", x.delivered(), i + 1);
        }
        due("none is left", x.deliver(0, 1, 0, 0), NOT);
        due("a refused one is not counted", x.delivered(), 4);
        x.undo();
        due("an undone one is not counted", x.delivered(), 3);
    }

    @Holds(promise = 23, sentence = "Returns the number of violations.")
    static void p23Answer() {
        asked("none", 0, ProgressTracker::new, x -> x.violations());
        asked("none", 0, Graphs::twoRequests, x -> x.violations());
    }

    // A view never lets a notification go too early, so what can be tested is that nothing else counts as a violation.
    @Holds(promise = 0, sentence = "The simulator counts the violations: the number of messages that were processed at a node n with a timestamp t (after the move) when a notification for a timestamp u at n, such that t is at most u, had been delivered by any worker before.")
    static void p00NoViolations() {
        ProgressTracker x = Graphs.twoRequests();
        due("delivered at node 1", x.deliver(0, 1, 2, 0), 100);
        due("10 has a lesser epoch, but a greater counter", x.process(1, 1, 4, 1, 0), 10);
        due("0 is at most 100, but at another node", x.process(1, 2, 0, 0, 0), 0);
        due("100 before the move is 110 after it", x.process(0, 1, 0, 0, 0), 110);
        x.send(0, 0);
        due("a greater epoch", x.process(0, 0, 0, 0, 0), 200);
        due("no violation", x.violations(), 0);
        ProgressTracker y = Graphs.requestsOf(1);
        y.advance(0);
        due("deliver", y.deliver(0, 1, 0, 0), 0);
        due("undo", y.undo(), 2);
        due("undo", y.undo(), 1);
        due("send in the same epoch", y.send(0, 1), 0);
        due("at most what has been delivered, but that is undone", y.process(1, 0, 0, 0, 0), 0);
        due("no violation", y.violations(), 0);
    }

    @Holds(promise = 0, sentence = "The simulator counts the violations")
    static void p00DroppedIsNoViolation() {
        ProgressTracker x = Graphs.nineRounds(Graphs.loop());
        x.undo();
        x.process(0, 1, 2, 0, 1);
        x.close(0);
        due("90 is delivered while 90 stands at the feedback edge", x.deliver(0, 1, 0, 0), 90);
        due("which is dropped", x.process(0, 1, 0, 0, 0), NONE);
        due("no violation", x.violations(), 0);
    }
}
