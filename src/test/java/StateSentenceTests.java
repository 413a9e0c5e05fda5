import java.util.ArrayList;
import java.util.List;
import java.util.function.Supplier;
import java.util.function.ToIntFunction;

/** The sentences about saved states, errors and the digest: promises 24 to 26, and what the description says of them. */
public final class StateSentenceTests {
    private static final int OUT = ProgressTracker.OUT_OF_RANGE;
    private static final int NOT = ProgressTracker.NOT_POSSIBLE;
    private static final int FULL = ProgressTracker.FULL;
    private static final int EMPTY = ProgressTracker.NOTHING_SAVED;
    private static final int NONE = ProgressTracker.NONE;
    private static final int CLOSED = -2;

    private static final Due DUE = new Due("StateSentenceTests");

    public static void main(String[] args) throws Exception {
        Sentences.run(StateSentenceTests.class, DUE);
    }

    private static void due(String what, long got, long want) {
        DUE.same(what, got, want);
    }

    private static void refused(String what, int code, Supplier<ProgressTracker> made, ToIntFunction<ProgressTracker> call) {
        Twins.refused(DUE, what, code, made, call);
    }

    /** Successful calls on twoRequests() of the undoable methods, but for those that build. */
    private static final List<ToIntFunction<ProgressTracker>> UNDOABLE = List.of(
        x -> x.send(0, 1), x -> x.advance(0), x -> x.close(0), x -> x.process(1, 1, 6, 0, 1),
        x -> x.deliver(0, 1, 6, 1), x -> x.receive(1, 3), x -> x.receive(0, 99));

    // ---- promise 24

    @Holds(promise = 24, sentence = "NOTHING_SAVED if there is none.")
    static void p24NothingSaved() {
        refused("a new object", EMPTY, ProgressTracker::new, x -> x.undo());
        Supplier<ProgressTracker> emptied = () -> {
            ProgressTracker x = Graphs.twoRequests();
            for (int i = 0; i < 3; i++) {
                x.undo();
            }
            return x;
        };
        refused("all three are restored", EMPTY, emptied, x -> x.undo());
        refused("refused calls save nothing", EMPTY, () -> withRefusals(), x -> x.undo());
        ProgressTracker x = emptied.get();
        x.undo();
        x.receive(0, 1);
        due("then one is saved", x.undo(), 0);
        due("and gone", x.undo(), EMPTY);
    }

    private static ProgressTracker withRefusals() {
        ProgressTracker x = new ProgressTracker();
        x.addNode(1, 1);
        x.addEdge(0, 0, 0);
        x.send(0, 0);
        x.advance(0);
        x.close(0);
        x.process(0, 0, 0, 0, 0);
        x.deliver(0, 0, 0, 0);
        x.receive(0, 0);
        return x;
    }

    @Holds(promise = 24, sentence = "Returns the number of saved states that remain")
    static void p24Answer() {
        ProgressTracker x = new ProgressTracker();
        x.addNode(0, 0);
        due("one was saved", x.undo(), 0);
        x.addNode(0, 0);
        x.addNode(0, 0);
        due("two were saved", x.undo(), 1);
        due("one is left", x.undo(), 0);
        for (int node = 0; node < 3; node++) {
            x.addNode(0, 0);
        }
        for (int remain = 2; remain >= 0; remain--) {
            due("three were saved", x.undo(), remain);
        }
    }

    @Holds(promise = 24, sentence = "Restores the most recently saved state and removes it from the saved states.")
    static void p24Restores() {
        ProgressTracker x = Graphs.line();
        long[] digests = new long[4];
        for (int i = 0; i < 4; i++) {
            digests[i] = x.digest();
            x.advance(0);
        }
        for (int i = 3; i >= 1; i--) {
            x.undo();
            // The digest ends with the number of saved states, which was 3.
            due("the last one first", x.digest(), digests[i] - 3 + (i - 1));
        }
        due("the oldest is dropped", x.undo(), EMPTY);
        due("the state stays", x.send(0, 0), 100);
    }

    @Holds(promise = 24, sentence = "removes it from the saved states")
    static void p24NewStatesAfterUndo() {
        ProgressTracker x = Graphs.line();
        x.advance(0);
        x.advance(0);
        x.undo();
        x.send(0, 0);
        due("undo goes back over the send", x.undo(), 2);
        due("no message", x.messages(0, 0), 0);
        due("epoch 1", x.close(0), 1);
        x.undo();
        due("undo goes back over the first advance", x.undo(), 1);
        due("epoch 0", x.close(0), 0);
        due("undo itself is not undoable", x.undo(), 1);
    }

    @Holds(promise = 0, sentence = "at most 3 states are saved, and the oldest is dropped first.")
    static void p00AtMostThree() {
        for (int calls = 3; calls <= 9; calls++) {
            ProgressTracker x = Graphs.line();
            for (int i = 0; i < calls; i++) {
                x.advance(0);
            }
            due("undo", x.undo(), 2);
            due("undo", x.undo(), 1);
            due("undo", x.undo(), 0);
            due("a fourth", x.undo(), EMPTY);
            due("the open epoch", x.close(0), calls - 3);
        }
    }

    @Holds(promise = 0, sentence = "Each successful call of a method whose description says \"undoable\" saves the state from before the call, even if the call changes nothing;")
    static void p00EachUndoableCallSaves() {
        for (int i = 0; i < UNDOABLE.size(); i++) {
            ProgressTracker x = Graphs.twoRequests();
            x.receive(1, 2);
            long before = x.digest();
            DUE.holds("call " + i + " is successful", UNDOABLE.get(i).applyAsInt(x) >= 0);
            due("undo of call " + i, x.undo(), 2);
            due("the state from before call " + i, x.digest(), before - 1);
        }
        ProgressTracker x = new ProgressTracker();
        x.addNode(1, 0);
        due("undo of addNode", x.undo(), 0);
        x.addNode(1, 0);
        x.addEdge(0, 0, 1);
        due("undo of addEdge", x.undo(), 1);
        due("the receipt of nothing", x.receive(0, 1), 0);
        due("undo of it", x.undo(), 1);
        due("the receipt of nothing, three times", x.receive(0, 1) + x.receive(1, 1) + x.receive(0, 9), 0);
        due("saved all the same", x.undo(), 2);
        due("saved all the same", x.undo(), 1);
        due("saved all the same", x.undo(), 0);
        due("the older ones are dropped", x.undo(), EMPTY);
    }

    @Holds(promise = 0, sentence = "Each successful call of a method whose description says \"undoable\" saves the state")
    static void p00OtherCallsSaveNothing() {
        Supplier<ProgressTracker> made = Graphs::twoRequests;
        Twins.asked(DUE, "kind", 3, made, x -> x.kind(1));
        Twins.asked(DUE, "move", 30, made, x -> x.move(1, 20));
        Twins.asked(DUE, "couldResultIn", 1, made, x -> x.couldResultIn(0, 0, 2, 0));
        Twins.asked(DUE, "earliest", 0, made, x -> x.earliest(0, 0, 2));
        Twins.asked(DUE, "messages", 1, made, x -> x.messages(1, 1));
        Twins.asked(DUE, "messageTime", 0, made, x -> x.messageTime(1, 1, 0));
        Twins.asked(DUE, "requests", 2, made, x -> x.requests(0, 1));
        Twins.asked(DUE, "deliverable", 100, made, x -> x.deliverable(0, 1));
        Twins.asked(DUE, "count", 1001, made, x -> x.count(0, 7, 0));
        Twins.asked(DUE, "active", 4, made, x -> x.active(0));
        Twins.asked(DUE, "frontier", 1100, made, x -> x.frontier(0, 1));
        Twins.asked(DUE, "pending", 17, made, x -> x.pending(1));
        Twins.asked(DUE, "delivered", 0, made, x -> x.delivered());
        Twins.asked(DUE, "violations", 0, made, x -> x.violations());
        Twins.asked(DUE, "errorCount", 0, made, x -> x.errorCount(OUT));
        Twins.asked(DUE, "digest", 7, made, x -> x.digest() == made.get().digest() ? 7 : 0);
    }

    @Holds(promise = 0, sentence = "The saved state contains everything except the error counters.")
    static void p00SavedState() {
        ProgressTracker x = Graphs.line();
        due("started", x.send(0, 0), 0);
        due("out of range", x.kind(1), OUT);
        due("not possible", x.addNode(0, 0), NOT);
        for (int i = 0; i < 11; i++) {
            x.send(0, 0);
        }
        due("full", x.send(0, 0), FULL);
        for (int i = 0; i < 4; i++) {
            x.undo();
        }
        due("the counter of -2 stays", x.errorCount(OUT), 1);
        due("the counter of -3 stays", x.errorCount(NOT), 1);
        due("the counter of -4 stays", x.errorCount(FULL), 1);
        due("the counter of -5 stays", x.errorCount(EMPTY), 1);
        ProgressTracker y = Graphs.line();
        y.close(0);
        y.undo();
        due("that there has been no event is saved too", y.addNode(2, 0), 2);
        due("and that the input is open", y.advance(0), 1);
    }

    @Holds(promise = 0, sentence = "The saved state contains everything")
    static void p00SavedStatesAreApart() {
        // What is changed after a state was saved must not reach the saved one: its queue, views, messages and requests.
        ProgressTracker x = Graphs.twoRequests();
        List<Long> before = answers(x);
        x.process(1, 1, 6, 1, 1);
        x.deliver(0, 1, 6, 1);
        x.receive(1, 99);
        due("undo", x.undo(), 2);
        due("undo", x.undo(), 1);
        due("undo", x.undo(), 0);
        DUE.holds("all is as before", answers(x).equals(before));
        due("the queue is as before", x.receive(1, 99), 17);
        due("so is what it says", x.count(1, 1, 100), 1001);
    }

    @Holds(promise = 0, sentence = "The saved state contains everything")
    static void p00LargestGraphIsSaved() {
        ProgressTracker x = Graphs.largest();
        List<Integer> before = waysOf(x);
        for (int i = 0; i < 5; i++) {
            x.advance(0);
        }
        for (int i = 0; i < 3; i++) {
            x.undo();
            DUE.holds("kinds, moves and ways of ten edges", waysOf(x).equals(before));
        }
    }

    private static List<Integer> waysOf(ProgressTracker x) {
        List<Integer> answers = new ArrayList<>();
        for (int edge = 0; edge < 10; edge++) {
            answers.addAll(List.of(x.kind(edge), x.move(edge, 0), x.earliest(0, 0, 6 + edge), x.earliest(6 + edge, 0, 5)));
        }
        return answers;
    }

    private static List<Long> answers(ProgressTracker x) {
        List<Long> answers = new ArrayList<>();
        for (int worker = 0; worker < 2; worker++) {
            for (int k = 0; k < 3; k++) {
                answers.add((long) x.messages(worker, k));
                answers.add((long) x.messageTime(worker, k, 0));
                answers.add((long) x.requests(worker, k));
                answers.add((long) x.deliverable(worker, k));
                answers.add((long) x.frontier(worker, k));
                answers.add((long) x.count(worker, 6 + k, 0));
            }
            answers.add((long) x.pending(worker));
            answers.add((long) x.active(worker));
        }
        answers.add((long) x.delivered());
        return answers;
    }

    // ---- errors

    @Holds(promise = 0, sentence = "A call that returns an error code changes nothing except that it increments the counter of that code.")
    static void p00RefusedCalls() {
        Supplier<ProgressTracker> made = Graphs::twoRequests;
        refused("addNode", NOT, made, x -> x.addNode(0, 1));
        refused("addEdge", NOT, made, x -> x.addEdge(0, 2, 0));
        refused("kind", OUT, made, x -> x.kind(3));
        refused("move", OUT, made, x -> x.move(1, 1));
        refused("couldResultIn", OUT, made, x -> x.couldResultIn(0, 1, 0, 0));
        refused("earliest", OUT, made, x -> x.earliest(0, 0, 9));
        refused("send", NOT, made, x -> x.send(1, 0));
        refused("advance", NOT, made, x -> x.advance(1));
        refused("close", NOT, made, x -> x.close(2));
        refused("process", NOT, made, x -> x.process(1, 1, 1, 0, 1));
        refused("deliver", NOT, made, x -> x.deliver(0, 1, 1, 0));
        refused("receive", OUT, made, x -> x.receive(1, 0));
        refused("messages", OUT, made, x -> x.messages(0, 3));
        refused("messageTime", OUT, made, x -> x.messageTime(1, 1, -1));
        refused("requests", OUT, made, x -> x.requests(0, 3));
        refused("deliverable", OUT, made, x -> x.deliverable(0, 3));
        refused("count", OUT, made, x -> x.count(0, 1, 1));
        refused("active", OUT, made, x -> x.active(2));
        refused("frontier", OUT, made, x -> x.frontier(0, -2));
        refused("pending", OUT, made, x -> x.pending(2));
        refused("undo", EMPTY, ProgressTracker::new, x -> x.undo());
        refused("errorCount", OUT, made, x -> x.errorCount(-1));
    }

    @Holds(promise = 0, sentence = "The checks of a method are made in the order in which its error codes are listed.")
    static void p00OrderOfChecks() {
        ProgressTracker x = Graphs.tenEdges();
        for (int i = 0; i < 12; i++) {
            x.send(9, 1);
        }
        x.close(0);
        due("send: all three are wrong", x.send(10, 1), OUT);
        due("send: closed and full", x.send(9, 1), NOT);
        due("addEdge: all three are wrong", x.addEdge(0, 1, 2), OUT);
        due("addEdge: too late and full", x.addEdge(0, 1, 0), NOT);
        due("process: range and message", x.process(0, 9, 0, 0, 2), OUT);
        due("the first alone is counted", x.errorCount(OUT), 3);
        due("the first alone is counted", x.errorCount(NOT), 2);
        due("the first alone is counted", x.errorCount(FULL), 0);
    }

    // ---- promise 25

    @Holds(promise = 25, sentence = {"`code`: an error code, -5 to -2", "OUT_OF_RANGE if code is out of range (this increments the counter of OUT_OF_RANGE)."})
    static void p25Code() {
        for (int code : Bounds.outside(-5, -2)) {
            refused("code " + code, OUT, Graphs::twoRequests, x -> x.errorCount(code));
        }
        refused("code 0", OUT, Graphs::twoRequests, x -> x.errorCount(0));
        refused("code 2", OUT, Graphs::twoRequests, x -> x.errorCount(2));
        ProgressTracker x = new ProgressTracker();
        due("-6", x.errorCount(-6), OUT);
        due("it is counted", x.errorCount(OUT), 1);
        due("-1: NONE is no error", x.errorCount(NONE), OUT);
        due("it is counted", x.errorCount(OUT), 2);
        due("asking is not", x.errorCount(OUT), 2);
    }

    @Holds(promise = 25, sentence = {"Returns how often an error code has been returned.", "Returns the counter of the code"})
    static void p25Answer() {
        ProgressTracker x = Graphs.largest();
        for (int i = 1; i <= 3; i++) {
            x.kind(10);
            due("-2", x.errorCount(OUT), i);
            x.advance(1);
            due("-3", x.errorCount(NOT), i);
            x.addNode(0, 0);
            due("-4", x.errorCount(FULL), i);
        }
        due("-5", x.errorCount(EMPTY), 0);
        for (int i = 0; i < 5; i++) {
            x.undo();
        }
        due("-5", x.errorCount(EMPTY), 2);
        x.earliest(5, 0, 0);
        due("NONE is counted nowhere", x.errorCount(OUT) + x.errorCount(NOT) + x.errorCount(FULL), 9);
    }

    // ---- promise 26

    private static long hash(List<Integer> values) {
        long h = 2731;
        for (int v : values) {
            h = 31 * h + v;
        }
        return h;
    }

    // What can be asked for is asked for; depths, open epochs, edges and the number of saved states have to be told.
    private static long hashOf(ProgressTracker x, int[] depths, int[] epochs, int[][] edges, int saved) {
        List<Integer> values = new ArrayList<>();
        for (int code = -2; code >= -5; code--) {
            values.add(x.errorCount(code));
        }
        values.add(depths.length);
        for (int node = 0; node < depths.length; node++) {
            values.addAll(List.of(depths[node], epochs[node]));
        }
        values.add(edges.length);
        for (int edge = 0; edge < edges.length; edge++) {
            values.addAll(List.of(edges[edge][0], edges[edge][1], x.kind(edge)));
        }
        for (int worker = 0; worker < 2; worker++) {
            addWorker(values, x, worker, depths.length, edges.length);
        }
        values.addAll(List.of(x.delivered(), x.violations(), saved));
        return hash(values);
    }

    private static void addWorker(List<Integer> values, ProgressTracker x, int worker, int nodes, int edges) {
        for (int edge = 0; edge < edges; edge++) {
            int messages = x.messages(worker, edge);
            values.add(messages);
            for (int index = 0; index < messages; index++) {
                values.add(x.messageTime(worker, edge, index));
            }
        }
        for (int node = 0; node < nodes; node++) {
            values.addAll(List.of(x.requests(worker, node), x.deliverable(worker, node)));
        }
        values.add(x.active(worker));
        int size = x.frontier(worker, -1);
        values.add(size);
        for (int index = 0; index < size; index++) {
            values.add(x.frontier(worker, index));
        }
        values.add(x.pending(worker));
    }

    private static final int[] LOOP_DEPTHS = {0, 1, 0};
    private static final int[][] LOOP_EDGES = {{0, 1}, {1, 1}, {1, 2}};

    @Holds(promise = 26, sentence = {"Returns a hash of the state.", "Start with h = 2731 and, for each of the following values v, set h = 31 * h + v"})
    static void p26Empty() {
        due("a new object: fifteen zeros", new ProgressTracker().digest(), hash(List.of(0, 0, 0, 0, 0, 0, 0, 0, 0, 0, 0, 0, 0, 0, 0)));
        due("the same once more", new ProgressTracker().digest(), new ProgressTracker().digest());
    }

    @Holds(promise = 26, sentence = "the counters of the codes -2, -3, -4, -5;")
    static void p26Counters() {
        ProgressTracker x = new ProgressTracker();
        for (int i = 0; i < 5; i++) {
            x.undo();
        }
        for (int i = 0; i < 2; i++) {
            x.kind(0);
        }
        x.addNode(0, 0);
        x.undo();
        due("-2 and -5", x.digest(), hash(List.of(2, 0, 0, 5, 0, 0, 0, 0, 0, 0, 0, 0, 0, 0, 0)));
        ProgressTracker y = Graphs.nodes(0, 0, 0, 0, 0, 0);
        for (int i = 0; i < 3; i++) {
            y.advance(0);
        }
        for (int i = 0; i < 4; i++) {
            y.addNode(0, 0);
        }
        due("-3 and -4", y.digest(), hashOf(y, new int[6], new int[] {NONE, NONE, NONE, NONE, NONE, NONE}, new int[0][], 3));
        due("-3 alone", y.errorCount(NOT), 3);
        due("-4 alone", y.errorCount(FULL), 4);
    }

    @Holds(promise = 26, sentence = "the number of nodes and, for each node, its depth and its open epoch (NONE if it is no input, -2 if it is a closed input);")
    static void p26Nodes() {
        ProgressTracker x = new ProgressTracker();
        x.addNode(0, 1);
        x.addNode(2, 0);
        x.addNode(0, 1);
        x.addNode(0, 1);
        x.addNode(1, 0);
        int[] depths = {0, 2, 0, 0, 1};
        due("epoch 0", x.digest(), hashOf(x, depths, new int[] {0, NONE, 0, 0, NONE}, new int[0][], 3));
        for (int i = 0; i < 9; i++) {
            x.advance(2);
        }
        x.close(3);
        due("epochs 0, 9 and closed", x.digest(), hashOf(x, depths, new int[] {0, NONE, 9, CLOSED, NONE}, new int[0][], 3));
        x.close(2);
        due("closed in epoch 9", x.digest(), hashOf(x, depths, new int[] {0, NONE, CLOSED, CLOSED, NONE}, new int[0][], 3));
    }

    @Holds(promise = 26, sentence = "the number of edges and, for each edge, its start, its end and its kind;")
    static void p26Edges() {
        int[] depths = {0, 1, 2, 2, 1, 0};
        int[] epochs = {0, NONE, NONE, NONE, NONE, NONE};
        int[][] edges = {{0, 1}, {1, 2}, {2, 3}, {3, 2}, {3, 4}, {4, 1}, {4, 5}, {2, 4}, {3, 3}, {2, 2}};
        ProgressTracker x = Graphs.largest();
        due("ten edges", x.digest(), hashOf(x, depths, epochs, edges, 3));
        ProgressTracker y = Graphs.loop();
        due("three edges", y.digest(), hashOf(y, LOOP_DEPTHS, new int[] {0, NONE, NONE}, LOOP_EDGES, 3));
    }

    @Holds(promise = 26, sentence = {"for each worker: for each edge the number of its messages and their timestamps, the oldest first;", "for each node the number of its requests and the timestamp of deliverable() (NONE if there is none);"})
    static void p26MessagesAndRequests() {
        ProgressTracker x = Graphs.twoRequests();
        due("by hand", x.digest(), hash(List.of(0, 0, 0, 0, 3, 0, 2, 1, NONE, 0, NONE, 3, 0, 1, 1, 1, 1, 3, 1, 2, 2,
                0, 0, 0, 0, NONE, 2, 100, 0, NONE, 4, 3, 200, 1100, 7000, 0,
                0, 1, 0, 0, 0, NONE, 0, NONE, 0, NONE, 1, 1, 0, 17,
                0, 0, 3)));
        for (int i = 0; i < 12; i++) {
            x.send(0, 1);
        }
        x.process(1, 0, 6, 1, 1);
        x.process(1, 1, 2, 1, 0);
        due("by asking", x.digest(), hashOf(x, LOOP_DEPTHS, new int[] {2, NONE, NONE}, LOOP_EDGES, 3));
        ProgressTracker y = Graphs.requestsOf(12);
        due("12 requests", y.digest(), hashOf(y, LOOP_DEPTHS, new int[] {0, NONE, NONE}, LOOP_EDGES, 3));
    }

    @Holds(promise = 26, sentence = {"active();", "the number of pointstamps on the frontier and each of them as frontier() returns it;", "pending();"})
    static void p26Views() {
        int[] epochs = {2, NONE, NONE};
        for (int received = 1; received <= 17; received++) {
            ProgressTracker x = Graphs.twoRequests();
            x.process(1, 1, 6, 1, 1);
            x.receive(1, received);
            due("worker 1 has received " + received, x.digest(), hashOf(x, LOOP_DEPTHS, epochs, LOOP_EDGES, 3));
        }
    }

    @Holds(promise = 26, sentence = {"then delivered(), violations() and the number of saved states."})
    static void p26End() {
        ProgressTracker x = Graphs.twoRequests();
        x.deliver(0, 1, 0, 0);
        int[] epochs = {2, NONE, NONE};
        due("one delivered", x.digest(), hashOf(x, LOOP_DEPTHS, epochs, LOOP_EDGES, 3));
        for (int saved = 2; saved >= 0; saved--) {
            x.undo();
            due("saved " + saved, x.digest(), hashOf(x, LOOP_DEPTHS, epochs, LOOP_EDGES, saved));
        }
        x.undo();
        due("nothing saved", x.digest(), hashOf(x, LOOP_DEPTHS, epochs, LOOP_EDGES, 0));
    }

    @Holds(promise = 26, sentence = "Returns the hash, with the overflow of long arithmetic ignored.")
    static void p26Overflow() {
        ProgressTracker x = Graphs.tenEdges();
        for (int i = 0; i < 12; i++) {
            for (int edge = 0; edge < 10; edge++) {
                x.send(edge, i % 2);
            }
            x.advance(0);
        }
        int[][] edges = {{0, 1}, {0, 1}, {0, 1}, {0, 1}, {0, 1}, {0, 1}, {0, 1}, {0, 1}, {0, 1}, {0, 1}};
        due("some 200 values", x.digest(), hashOf(x, new int[] {0, 0}, new int[] {9, NONE}, edges, 3));
    }

    // ---- the 512th call

    @Holds(promise = 0, sentence = "An object is used for at most 512 calls after it has been made; what later calls answer is free.")
    static void p00LastCall() {
        // 3 calls build the line; then 508 events, whose updates all stay in the queue of worker 1.
        ProgressTracker x = Graphs.line();
        for (int i = 0; i < 254; i++) {
            due("send", x.send(0, 0), 0);
            due("process", x.process(0, 0, 0, 0, 0), 0);
        }
        due("the 512th call", x.pending(1), 508);
        ProgressTracker z = Graphs.loop();
        for (int i = 0; i < 42; i++) {
            // 12 calls and 22 updates: nine rounds, and the message is dropped.
            Graphs.nineRounds(z);
            due("dropped", z.process(0, 1, 0, 0, 0), NONE);
        }
        due("the 511th call", z.pending(1), 42 * 22);
        due("the 512th call", z.receive(1, 99), 99);
        ProgressTracker y = Graphs.loop();
        for (int i = 6; i < 511; i++) {
            y.receive(2, 1);
        }
        due("the 512th call", y.errorCount(OUT), 505);
    }
}
