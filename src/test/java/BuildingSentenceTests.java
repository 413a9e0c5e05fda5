import java.util.function.Supplier;
import java.util.function.ToIntFunction;

/** The sentences about a new object, nodes and edges: promises 1 to 4, and what the description says of the graph. */
public final class BuildingSentenceTests {
    private static final int OUT = ProgressTracker.OUT_OF_RANGE;
    private static final int NOT = ProgressTracker.NOT_POSSIBLE;
    private static final int FULL = ProgressTracker.FULL;
    private static final int NONE = ProgressTracker.NONE;

    private static final Due DUE = new Due("BuildingSentenceTests");

    public static void main(String[] args) throws Exception {
        Sentences.run(BuildingSentenceTests.class, DUE);
    }

    private static void due(String what, long got, long want) {
        DUE.same(what, got, want);
    }

    private static void refused(String what, int code, Supplier<ProgressTracker> made, ToIntFunction<ProgressTracker> call) {
        Twins.refused(DUE, what, code, made, call);
    }

    private static ProgressTracker after(ProgressTracker x, ToIntFunction<ProgressTracker> call) {
        call.applyAsInt(x);
        return x;
    }

    private static ProgressTracker sixNodes() {
        return Graphs.nodes(0, 1, 2, 0, 1, 2);
    }

    // ---- promise 1

    @Holds(promise = 1, sentence = "Creates a simulator without nodes")
    static void p01NoNodes() {
        Supplier<ProgressTracker> made = ProgressTracker::new;
        for (int node = 0; node < 6; node++) {
            int k = node;
            refused("advance", OUT, made, x -> x.advance(k));
            refused("close", OUT, made, x -> x.close(k));
            refused("deliver", OUT, made, x -> x.deliver(0, k, 0, 0));
            refused("requests", OUT, made, x -> x.requests(0, k));
            refused("deliverable", OUT, made, x -> x.deliverable(1, k));
            refused("count", OUT, made, x -> x.count(0, k, 0));
            refused("addEdge", OUT, made, x -> x.addEdge(k, k, 0));
        }
        due("the first node", new ProgressTracker().addNode(0, 0), 0);
    }

    @Holds(promise = 1, sentence = "Creates a simulator without nodes and edges.")
    static void p01NoEdges() {
        Supplier<ProgressTracker> made = ProgressTracker::new;
        for (int edge = 0; edge < 10; edge++) {
            int k = edge;
            refused("kind", OUT, made, x -> x.kind(k));
            refused("move", OUT, made, x -> x.move(k, 0));
            refused("send", OUT, made, x -> x.send(k, 0));
            refused("process", OUT, made, x -> x.process(0, k, 0, 0, 0));
            refused("messages", OUT, made, x -> x.messages(1, k));
            refused("messageTime", OUT, made, x -> x.messageTime(0, k, 0));
            refused("count", OUT, made, x -> x.count(1, 6 + k, 0));
        }
        due("the first edge", Graphs.nodes(0, 0).addEdge(0, 1, 0), 0);
    }

    @Holds(promise = 1, sentence = "Creates a simulator")
    static void p01NothingHasHappened() {
        ProgressTracker x = new ProgressTracker();
        for (int worker = 0; worker < 2; worker++) {
            due("active", x.active(worker), 0);
            due("pending", x.pending(worker), 0);
            due("frontier", x.frontier(worker, -1), 0);
            due("frontier", x.frontier(worker, 0), NONE);
        }
        due("delivered", x.delivered(), 0);
        due("violations", x.violations(), 0);
        for (int code = -5; code <= -2; code++) {
            due("errorCount", x.errorCount(code), 0);
        }
        due("undo", x.undo(), ProgressTracker.NOTHING_SAVED);
    }

    @Holds(promise = 1, sentence = "Creates a simulator")
    static void p01ObjectsShareNothing() {
        ProgressTracker old = Graphs.twoRequests();
        old.kind(9);
        long before = old.digest();
        ProgressTracker x = new ProgressTracker();
        due("errors of the new one", x.errorCount(OUT), 0);
        due("its first node", x.addNode(2, 0), 0);
        due("its first edge", x.addEdge(0, 0, 1), 0);
        due("the least of it", x.earliest(0, 5, 6), 5);
        due("the old one", old.digest(), before);
        due("the old one's ways", old.earliest(0, 0, 8), 0);
    }

    // ---- promise 2

    @Holds(promise = 2, sentence = "`depth`: 0 to 2")
    static void p02Depth() {
        for (int depth = 0; depth <= 2; depth++) {
            due("depth " + depth, new ProgressTracker().addNode(depth, 0), 0);
        }
        for (int depth : Bounds.outside(0, 2)) {
            refused("depth " + depth, OUT, Graphs::loop, x -> x.addNode(depth, 0));
        }
    }

    @Holds(promise = 2, sentence = "`input`: 1 if the node is an input, 0 if it is not")
    static void p02Input() {
        due("an input can be advanced", after(new ProgressTracker(), x -> x.addNode(0, 1)).advance(0), 1);
        due("another node can't", after(new ProgressTracker(), x -> x.addNode(0, 0)).advance(0), NOT);
        for (int input : Bounds.outside(0, 1)) {
            refused("input " + input, OUT, Graphs::loop, x -> x.addNode(0, input));
        }
    }

    @Holds(promise = 2, sentence = "OUT_OF_RANGE if an argument is out of range or input is 1 and depth is not 0")
    static void p02InputInALoop() {
        due("depth 0", new ProgressTracker().addNode(0, 1), 0);
        refused("depth 1", OUT, Graphs::loop, x -> x.addNode(1, 1));
        refused("depth 2", OUT, Graphs::loop, x -> x.addNode(2, 1));
        refused("both wrong", OUT, Graphs::loop, x -> x.addNode(3, 2));
    }

    @Holds(promise = 2, sentence = "NOT_POSSIBLE if there has been an event")
    static void p02AfterAnEvent() {
        refused("after send", NOT, () -> after(Graphs.loop(), x -> x.send(0, 1)), x -> x.addNode(0, 0));
        refused("after advance", NOT, () -> after(Graphs.loop(), x -> x.advance(0)), x -> x.addNode(0, 0));
        refused("after close", NOT, () -> after(Graphs.loop(), x -> x.close(0)), x -> x.addNode(0, 0));
        refused("after many", NOT, Graphs::twoRequests, x -> x.addNode(0, 1));
        refused("after two, of which one was undone", NOT, () -> afterOneOfTwo(), x -> x.addNode(0, 0));
        due("after a refused send", after(Graphs.loop(), x -> x.send(1, 0)).addNode(0, 0), 3);
        due("after a refused advance", after(Graphs.loop(), x -> x.advance(1)).addNode(0, 0), 3);
        due("after a refused close", after(Graphs.loop(), x -> x.close(1)).addNode(0, 0), 3);
        due("after a refused process", after(Graphs.loop(), x -> x.process(0, 0, 0, 0, 0)).addNode(0, 0), 3);
        due("after a refused deliver", after(Graphs.loop(), x -> x.deliver(0, 1, 0, 0)).addNode(0, 0), 3);
    }

    private static ProgressTracker afterOneOfTwo() {
        ProgressTracker x = Graphs.loop();
        x.send(0, 0);
        x.send(0, 0);
        x.undo();
        return x;
    }

    @Holds(promise = 2, sentence = "FULL if there are 6 nodes.")
    static void p02Full() {
        due("the sixth", Graphs.nodes(0, 0, 0, 0, 0).addNode(2, 0), 5);
        for (int depth = 0; depth <= 2; depth++) {
            int d = depth;
            refused("the seventh", FULL, BuildingSentenceTests::sixNodes, x -> x.addNode(d, 0));
        }
        refused("the seventh, an input", FULL, BuildingSentenceTests::sixNodes, x -> x.addNode(0, 1));
        ProgressTracker x = sixNodes();
        x.undo();
        due("after undo", x.addNode(1, 0), 5);
        due("full again", x.addNode(1, 0), FULL);
    }

    @Holds(promise = 2, sentence = "Returns the number of the node")
    static void p02Number() {
        ProgressTracker x = new ProgressTracker();
        for (int node = 0; node < 6; node++) {
            due("node", x.addNode(node % 3, node == 3 ? 1 : 0), node);
            x.addNode(0, 2);
        }
    }

    @Holds(promise = 2, sentence = {"Adds a node. Undoable.", "Undoable."})
    static void p02Undoable() {
        ProgressTracker x = Graphs.nodes(0);
        x.addNode(0, 1);
        due("undo", x.undo(), 1);
        due("no such node", x.requests(0, 1), OUT);
        due("nor its epoch in view 0", x.active(0), 0);
        due("nor its epoch in view 1", x.active(1), 0);
        due("the number is free", x.addNode(2, 0), 1);
        due("it is no input", x.advance(1), NOT);
        due("it has its own depth", x.count(0, 1, 11), 1000);
    }

    @Holds(promise = 2, sentence = {"NOT_POSSIBLE if there has been an event; FULL if there are 6 nodes"})
    static void p02OrderOfChecks() {
        Supplier<ProgressTracker> full = BuildingSentenceTests::sixNodes;
        refused("range before full", OUT, full, x -> x.addNode(3, 0));
        refused("an input's depth before full", OUT, full, x -> x.addNode(1, 1));
        Supplier<ProgressTracker> fullAfterAnEvent = () -> after(Graphs.largest(), x -> x.advance(0));
        refused("event before full", NOT, fullAfterAnEvent, x -> x.addNode(0, 0));
        refused("range before event", OUT, fullAfterAnEvent, x -> x.addNode(0, -1));
        refused("an input's depth before event", OUT, fullAfterAnEvent, x -> x.addNode(2, 1));
    }

    // ---- promise 3

    @Holds(promise = 3, sentence = {"`from`: number of a node", "OUT_OF_RANGE if an argument is out of range"})
    static void p03From() {
        for (int node : Bounds.outside(0, 2)) {
            refused("from " + node, OUT, Graphs::loop, x -> x.addEdge(node, 2, 0));
        }
        refused("six nodes, from 6", OUT, BuildingSentenceTests::sixNodes, x -> x.addEdge(6, 0, 0));
        due("the least", Graphs.loop().addEdge(0, 2, 0), 3);
        due("the greatest", sixNodes().addEdge(5, 4, 0), 0);
    }

    @Holds(promise = 3, sentence = {"`to`: number of a node", "OUT_OF_RANGE if an argument is out of range"})
    static void p03To() {
        for (int node : Bounds.outside(0, 2)) {
            refused("to " + node, OUT, Graphs::loop, x -> x.addEdge(0, node, 0));
        }
        refused("six nodes, to 6", OUT, BuildingSentenceTests::sixNodes, x -> x.addEdge(0, 6, 0));
        due("the least", sixNodes().addEdge(4, 0, 0), 0);
        due("the greatest", sixNodes().addEdge(4, 5, 0), 0);
    }

    @Holds(promise = 3, sentence = {"`feedback`: 1 for a feedback edge, 0 for any other edge", "OUT_OF_RANGE if an argument is out of range"})
    static void p03Feedback() {
        for (int feedback : Bounds.outside(0, 1)) {
            refused("feedback " + feedback, OUT, Graphs::loop, x -> x.addEdge(1, 1, feedback));
        }
        due("feedback 1", after(Graphs.nodes(1, 1), x -> x.addEdge(0, 1, 1)).kind(0), 3);
        due("feedback 0", after(Graphs.nodes(1, 1), x -> x.addEdge(0, 1, 0)).kind(0), 0);
    }

    @Holds(promise = 3, sentence = "NOT_POSSIBLE if there has been an event")
    static void p03AfterAnEvent() {
        refused("after send", NOT, () -> after(Graphs.loop(), x -> x.send(0, 0)), x -> x.addEdge(0, 2, 0));
        refused("after advance", NOT, () -> after(Graphs.loop(), x -> x.advance(0)), x -> x.addEdge(0, 2, 0));
        refused("after close", NOT, () -> after(Graphs.loop(), x -> x.close(0)), x -> x.addEdge(0, 2, 0));
        refused("after two, of which one was undone", NOT, () -> afterOneOfTwo(), x -> x.addEdge(0, 2, 0));
        due("after a refused event", after(Graphs.loop(), x -> x.close(2)).addEdge(0, 2, 0), 3);
        due("after an event that was undone", after(after(Graphs.loop(), x -> x.send(0, 0)), x -> x.undo()).addEdge(0, 2, 0), 3);
    }

    @Holds(promise = 3, sentence = "to is an input")
    static void p03ToAnInput() {
        Supplier<ProgressTracker> made = () -> after(Graphs.loop(), x -> x.addNode(0, 1));
        refused("from another node", NOT, made, x -> x.addEdge(2, 0, 0));
        refused("from a node in a loop", NOT, made, x -> x.addEdge(1, 3, 0));
        refused("from an input", NOT, made, x -> x.addEdge(0, 3, 0));
        refused("from itself", NOT, made, x -> x.addEdge(3, 3, 0));
        due("from an input to no input", made.get().addEdge(3, 2, 0), 3);
    }

    @Holds(promise = 3, sentence = "the depths differ by more than 1")
    static void p03DepthsFarApart() {
        Supplier<ProgressTracker> made = () -> Graphs.nodes(0, 1, 2);
        refused("0 to 2", NOT, made, x -> x.addEdge(0, 2, 0));
        refused("2 to 0", NOT, made, x -> x.addEdge(2, 0, 0));
        due("0 to 1", made.get().addEdge(0, 1, 0), 0);
        due("1 to 2", made.get().addEdge(1, 2, 0), 0);
        due("2 to 1", made.get().addEdge(2, 1, 0), 0);
        due("1 to 0", made.get().addEdge(1, 0, 0), 0);
    }

    @Holds(promise = 3, sentence = "feedback is 1 and the depths differ or are 0")
    static void p03FeedbackBetweenDepths() {
        Supplier<ProgressTracker> made = () -> Graphs.nodes(0, 1, 2, 0, 1, 2);
        for (int from = 0; from < 3; from++) {
            for (int to = 0; to < 3; to++) {
                int a = from;
                int b = 3 + to;
                if (from == to && from > 0) {
                    due("feedback at depth " + from, made.get().addEdge(a, b, 1), 0);
                } else {
                    refused("feedback from depth " + from + " to " + to, NOT, made, x -> x.addEdge(a, b, 1));
                }
            }
        }
        refused("from a node of depth 0 to itself", NOT, made, x -> x.addEdge(0, 0, 1));
    }

    @Holds(promise = 3, sentence = "FULL if there are 10 edges.")
    static void p03Full() {
        ProgressTracker x = Graphs.tenEdges();
        due("the tenth", x.kind(9), 0);
        refused("the eleventh", FULL, Graphs::tenEdges, y -> y.addEdge(0, 1, 0));
        refused("the eleventh in loops", FULL, Graphs::largest, y -> y.addEdge(2, 2, 1));
        x.undo();
        due("after undo", x.addEdge(0, 1, 0), 9);
        due("full again", x.addEdge(0, 1, 0), FULL);
    }

    @Holds(promise = 3, sentence = "Returns the number of the edge")
    static void p03Number() {
        ProgressTracker x = Graphs.nodes(1, 1);
        for (int edge = 0; edge < 10; edge++) {
            x.addEdge(0, 0, 0);
            due("edge", x.addEdge(edge % 2, 1 - edge % 2, 1), edge);
        }
    }

    @Holds(promise = 3, sentence = {"Adds an edge. Undoable.", "Undoable."})
    static void p03Undoable() {
        ProgressTracker x = Graphs.loop();
        due("undo", x.undo(), 2);
        due("no such edge", x.kind(2), OUT);
        due("no such location", x.count(0, 8, 0), OUT);
        due("no such way", x.earliest(1, 0, 2), NONE);
        due("another edge", x.addEdge(1, 1, 1), 2);
        due("has its own kind", x.kind(2), 3);
    }

    @Holds(promise = 3, sentence = {"OUT_OF_RANGE if an argument is out of range; NOT_POSSIBLE if there has been an event",
        "FULL if there are 10 edges"})
    static void p03OrderOfChecks() {
        refused("range before full", OUT, Graphs::tenEdges, x -> x.addEdge(0, 2, 0));
        refused("input before full", NOT, Graphs::tenEdges, x -> x.addEdge(1, 0, 0));
        refused("feedback at depth 0 before full", NOT, Graphs::tenEdges, x -> x.addEdge(0, 1, 1));
        refused("cycle before full", NOT, Graphs::tenEdges, x -> x.addEdge(1, 1, 0));
        refused("cycle in a loop before full", NOT, Graphs::largest, x -> x.addEdge(3, 2, 0));
        refused("depths before full", NOT, Graphs::largest, x -> x.addEdge(5, 2, 0));
        Supplier<ProgressTracker> fullAfterAnEvent = () -> after(Graphs.tenEdges(), x -> x.send(9, 0));
        refused("event before full", NOT, fullAfterAnEvent, x -> x.addEdge(0, 1, 0));
        refused("range before event", OUT, fullAfterAnEvent, x -> x.addEdge(0, 1, 2));
        refused("range before an input", OUT, Graphs::loop, x -> x.addEdge(2, 0, -1));
    }

    // ---- promise 3: cycles

    private static final String CYCLE =
        "or the edge would make a cycle without such a feedback edge as each cycle must contain";

    @Holds(promise = 3, sentence = CYCLE)
    static void p03CycleOfOneNode() {
        for (int depth = 0; depth <= 2; depth++) {
            int d = depth;
            refused("plain at depth " + d, NOT, () -> Graphs.nodes(d), x -> x.addEdge(0, 0, 0));
        }
        due("feedback at depth 1", Graphs.nodes(1).addEdge(0, 0, 1), 0);
        due("feedback at depth 2", Graphs.nodes(2).addEdge(0, 0, 1), 0);
        ProgressTracker x = after(Graphs.nodes(1), y -> y.addEdge(0, 0, 1));
        due("a feedback edge beside it does not help", x.addEdge(0, 0, 0), NOT);
        due("another feedback edge", x.addEdge(0, 0, 1), 1);
    }

    @Holds(promise = 3, sentence = CYCLE)
    static void p03CycleOfTwoNodes() {
        for (int depth = 0; depth <= 2; depth++) {
            int d = depth;
            refused("both plain", NOT, () -> after(Graphs.nodes(d, d), x -> x.addEdge(0, 1, 0)), x -> x.addEdge(1, 0, 0));
        }
        for (int depth = 1; depth <= 2; depth++) {
            int d = depth;
            due("then feedback", after(Graphs.nodes(d, d), x -> x.addEdge(0, 1, 0)).addEdge(1, 0, 1), 1);
            due("feedback first", after(Graphs.nodes(d, d), x -> x.addEdge(0, 1, 1)).addEdge(1, 0, 0), 1);
            due("both feedback", after(Graphs.nodes(d, d), x -> x.addEdge(0, 1, 1)).addEdge(1, 0, 1), 1);
        }
    }

    @Holds(promise = 3, sentence = CYCLE)
    static void p03LongestCycle() {
        for (int place = 0; place < 6; place++) {
            ProgressTracker x = Graphs.nodes(1, 1, 1, 1, 1, 1);
            for (int node = 0; node < 5; node++) {
                due("edge", x.addEdge(node, node + 1, node == place ? 1 : 0), node);
            }
            due("feedback at place " + place, x.addEdge(5, 0, place == 5 ? 1 : 0), 5);
        }
        refused("all plain", NOT, BuildingSentenceTests::chain, x -> x.addEdge(5, 0, 0));
        due("a chord forward", chain().addEdge(0, 5, 0), 5);
        refused("a chord back", NOT, BuildingSentenceTests::chain, x -> x.addEdge(4, 1, 0));
        due("a chord back with feedback", chain().addEdge(4, 1, 1), 5);
    }

    // The edges stand against the order of the nodes, so that a search in the order of the edges has to come back.
    private static ProgressTracker chain() {
        ProgressTracker x = Graphs.nodes(1, 1, 1, 1, 1, 1);
        for (int node = 4; node >= 0; node--) {
            x.addEdge(node, node + 1, 0);
        }
        return x;
    }

    @Holds(promise = 3, sentence = CYCLE)
    static void p03OneGoodAndOneBadCycle() {
        ProgressTracker x = Graphs.nodes(1, 1, 1);
        due("0-1 feedback", x.addEdge(0, 1, 1), 0);
        due("0-1 plain", x.addEdge(0, 1, 0), 1);
        due("1-2", x.addEdge(1, 2, 0), 2);
        due("2-0 plain would pass by the feedback edge", x.addEdge(2, 0, 0), NOT);
        due("2-0 feedback", x.addEdge(2, 0, 1), 3);
        due("2-1 plain", x.addEdge(2, 1, 0), NOT);
        due("1-0 plain", x.addEdge(1, 0, 0), NOT);
    }

    @Holds(promise = 0, sentence = "Each cycle of edges must contain a feedback edge at a node whose depth is the least depth of all nodes on the cycle.")
    static void p00FeedbackAtTheLeastDepth() {
        // 0 and 1 have depth 2, node 2 has depth 1: the cycle 0-1-2-0 has its feedback edge 0-1 in the inner loop alone.
        int[][] edges = {{0, 1, 1}, {1, 2, 0}, {2, 0, 0}};
        for (int last = 0; last < 3; last++) {
            ProgressTracker x = Graphs.nodes(2, 2, 1);
            for (int i = 1; i <= 2; i++) {
                int[] e = edges[(last + i) % 3];
                due("no cycle yet", x.addEdge(e[0], e[1], e[2]), i - 1);
            }
            int[] e = edges[last];
            due("the cycle's least depth has no feedback edge", x.addEdge(e[0], e[1], e[2]), NOT);
        }
        ProgressTracker y = Graphs.nodes(2, 1, 1);
        due("2-1 leaving", y.addEdge(0, 1, 0), 0);
        due("1-1 feedback", y.addEdge(1, 2, 1), 1);
        due("1-2 entering: the outer loop has its feedback edge", y.addEdge(2, 0, 0), 2);
        due("but this cycle has none", y.addEdge(1, 0, 0), NOT);
    }

    @Holds(promise = 0, sentence = "Each cycle of edges must contain a feedback edge")
    static void p00NoCycleAtDepth0() {
        ProgressTracker x = Graphs.nodes(0, 1, 1, 0);
        due("in", x.addEdge(0, 1, 0), 0);
        due("feedback", x.addEdge(1, 2, 1), 1);
        due("out where one came in", x.addEdge(2, 0, 0), NOT);
        due("out elsewhere", x.addEdge(2, 3, 0), 2);
        due("and back", x.addEdge(3, 0, 0), NOT);
        due("and in again", x.addEdge(3, 1, 0), NOT);
        due("forward", x.addEdge(0, 3, 0), 3);
    }

    // ---- what the description says of the graph

    @Holds(promise = 0, sentence = "There are at most 6 nodes and at most 10 edges, both numbered from 0 in the order in which they were added.")
    static void p00MostNodesAndEdges() {
        ProgressTracker x = Graphs.largest();
        due("a seventh node", x.addNode(0, 0), FULL);
        due("an eleventh edge", x.addEdge(0, 1, 0), FULL);
        int[] kinds = {1, 1, 0, 3, 2, 3, 2, 2, 3, 3};
        for (int edge = 0; edge < 10; edge++) {
            due("edge " + edge, x.kind(edge), kinds[edge]);
        }
        int[] greatest = {900, 990, 999, 999, 990, 900};
        for (int node = 0; node < 6; node++) {
            due("node " + node, x.earliest(node, greatest[node], node), greatest[node]);
        }
    }

    @Holds(promise = 0, sentence = "A node has a depth, 0 to 2, the number of loops around it.")
    static void p00Depth() {
        ProgressTracker x = Graphs.nodes(0, 1, 2);
        int[][] times = {{900, 910}, {990, 991}, {999, 1000}};
        for (int node = 0; node < 3; node++) {
            due("greatest timestamp", x.count(0, node, times[node][0]), 1000);
            due("one counter more", x.count(0, node, times[node][1]), OUT);
        }
    }

    @Holds(promise = 0, sentence = "An edge leads from a node to a different or the same node")
    static void p00SameNode() {
        ProgressTracker x = Graphs.nodes(1, 1);
        due("to a different node", x.addEdge(0, 1, 1), 0);
        due("to the same node", x.addEdge(0, 0, 1), 1);
        due("the same once more", x.addEdge(0, 0, 1), 2);
        due("its move", x.move(2, 0), 10);
    }

    @Holds(promise = 0, sentence = "A feedback edge needs a depth of at least 1.")
    static void p00FeedbackNeedsALoop() {
        refused("depth 0", NOT, () -> Graphs.nodes(0, 0), x -> x.addEdge(0, 1, 1));
        due("depth 1", Graphs.nodes(1, 1).addEdge(0, 1, 1), 0);
        due("depth 2", Graphs.nodes(2, 2).addEdge(0, 1, 1), 0);
    }

    @Holds(promise = 0, sentence = "An input is a node of depth 0 to which no edge leads.")
    static void p00Input() {
        refused("depth 1", OUT, ProgressTracker::new, x -> x.addNode(1, 1));
        refused("an edge to it", NOT, Graphs::line, x -> x.addEdge(1, 0, 0));
        due("a node to which no edge leads is no input for that", Graphs.nodes(0).close(0), NOT);
    }

    @Holds(promise = 0, sentence = "Nodes and edges can be added only until the first event (receiving updates is no event).")
    static void p00BuildingEnds() {
        ProgressTracker x = Graphs.line();
        due("receive", x.receive(0, 1), 0);
        due("receive", x.receive(1, 99), 0);
        due("node", x.addNode(0, 0), 2);
        due("edge", x.addEdge(0, 2, 0), 1);
        due("the first event", x.send(1, 0), 0);
        due("node", x.addNode(0, 0), NOT);
        due("edge", x.addEdge(0, 2, 0), NOT);
        due("receive", x.receive(1, 1), 1);
        due("node", x.addNode(0, 0), NOT);
        due("edge", x.addEdge(0, 2, 0), NOT);
    }

    // ---- promise 4

    @Holds(promise = 4, sentence = "Returns 0 for a plain edge, 1 for an entering edge, 2 for a leaving edge, 3 for a feedback edge")
    static void p04Kinds() {
        for (int from = 0; from < 3; from++) {
            for (int to = Math.max(0, from - 1); to <= Math.min(2, from + 1); to++) {
                ProgressTracker x = Graphs.nodes(from, to);
                x.addEdge(0, 1, 0);
                due("from depth " + from + " to " + to, x.kind(0), from == to ? 0 : from < to ? 1 : 2);
            }
        }
        for (int depth = 1; depth < 3; depth++) {
            due("feedback", after(Graphs.nodes(depth, depth), x -> x.addEdge(0, 1, 1)).kind(0), 3);
        }
    }

    @Holds(promise = 4, sentence = {"Returns the kind of an edge.", "`edge`: number of an edge", "OUT_OF_RANGE if there is no such edge."})
    static void p04Edge() {
        for (int edge : Bounds.outside(0, 2)) {
            refused("edge " + edge, OUT, Graphs::loop, x -> x.kind(edge));
        }
        for (int edge : Bounds.outside(0, 9)) {
            refused("of ten edges: " + edge, OUT, Graphs::largest, x -> x.kind(edge));
        }
        Twins.asked(DUE, "the least", 1, Graphs::largest, x -> x.kind(0));
        Twins.asked(DUE, "the greatest", 3, Graphs::largest, x -> x.kind(9));
    }

    @Holds(promise = 0, sentence = "and has a kind that follows from the depths: an entering edge leads to a node whose depth is 1 greater, a leaving edge leads to a node whose depth is 1 less, and an edge between nodes of equal depths is a feedback edge or a plain edge")
    static void p00KindFollowsFromTheDepths() {
        due("1 greater, 0 to 1", after(Graphs.nodes(0, 1), x -> x.addEdge(0, 1, 0)).kind(0), 1);
        due("1 greater, 1 to 2", after(Graphs.nodes(1, 2), x -> x.addEdge(0, 1, 0)).kind(0), 1);
        due("1 less, 2 to 1", after(Graphs.nodes(2, 1), x -> x.addEdge(0, 1, 0)).kind(0), 2);
        due("1 less, 1 to 0", after(Graphs.nodes(1, 0), x -> x.addEdge(0, 1, 0)).kind(0), 2);
        due("equal, plain", after(Graphs.nodes(2, 2), x -> x.addEdge(0, 1, 0)).kind(0), 0);
        due("equal, feedback", after(Graphs.nodes(2, 2), x -> x.addEdge(0, 1, 1)).kind(0), 3);
    }
}
