/** Graphs, and runs of calls on them, that tests begin with. */
final class Graphs {
    private static final int[] LARGEST_DEPTHS = {0, 1, 2, 2, 1, 0};
    // From, to, feedback.
    private static final int[][] LARGEST_EDGES = {
        {0, 1, 0}, {1, 2, 0}, {2, 3, 0}, {3, 2, 1}, {3, 4, 0}, {4, 1, 1}, {4, 5, 0}, {2, 4, 0}, {3, 3, 1}, {2, 2, 1}};

    private Graphs() { }

    /** Nodes of these depths, none of them an input. */
    static ProgressTracker nodes(int... depths) {
        ProgressTracker x = new ProgressTracker();
        for (int depth : depths) {
            x.addNode(depth, 0);
        }
        return x;
    }

    /** Input 0, node 1 of depth 0, edge 0 between them. */
    static ProgressTracker line() {
        ProgressTracker x = new ProgressTracker();
        x.addNode(0, 1);
        x.addNode(0, 0);
        x.addEdge(0, 1, 0);
        return x;
    }

    /** Input 0, node 1 of depth 1, edge 0 enters it, edge 1 is its feedback, node 2 of depth 0, edge 2 leaves to it. */
    static ProgressTracker loop() {
        ProgressTracker x = new ProgressTracker();
        x.addNode(0, 1);
        x.addNode(1, 0);
        x.addNode(0, 0);
        x.addEdge(0, 1, 0);
        x.addEdge(1, 1, 1);
        x.addEdge(1, 2, 0);
        return x;
    }

    /** Nodes 0 and 1 of depth 1, 2 and 3 of depth 2: edges 2-0 leaving, 0-1 feedback, 1-2 entering, 2-3 feedback. */
    static ProgressTracker nines() {
        ProgressTracker x = nodes(1, 1, 2, 2);
        x.addEdge(2, 0, 0);
        x.addEdge(0, 1, 1);
        x.addEdge(1, 2, 0);
        x.addEdge(2, 3, 1);
        return x;
    }

    /**
     * Six nodes and ten edges. Node 0 is the input; the depths are 0, 1, 2, 2, 1, 0; the edges are
     * 0-1 entering, 1-2 entering, 2-3 plain, 3-2 feedback, 3-4 leaving, 4-1 feedback, 4-5 leaving,
     * 2-4 leaving, 3-3 feedback, 2-2 feedback.
     */
    static ProgressTracker largest() {
        ProgressTracker x = new ProgressTracker();
        for (int node = 0; node < LARGEST_DEPTHS.length; node++) {
            x.addNode(LARGEST_DEPTHS[node], node == 0 ? 1 : 0);
        }
        for (int[] edge : LARGEST_EDGES) {
            x.addEdge(edge[0], edge[1], edge[2]);
        }
        return x;
    }

    /** Node 0 of depth 1 with feedback edge 0, input 1, edge 1 from the input to node 0: edge 0 is no edge of the input. */
    static ProgressTracker lateInput() {
        ProgressTracker x = nodes(1);
        x.addEdge(0, 0, 1);
        x.addNode(0, 1);
        x.addEdge(1, 0, 0);
        return x;
    }

    /** The edges of largest() that start at the node to which an edge leads, as a bit set. */
    static int largestOutputs(int edge) {
        int outputs = 0;
        for (int k = 0; k < LARGEST_EDGES.length; k++) {
            outputs |= LARGEST_EDGES[k][0] == LARGEST_EDGES[edge][1] ? 1 << k : 0;
        }
        return outputs;
    }

    /** The line with ten edges from node 0 to node 1. */
    static ProgressTracker tenEdges() {
        ProgressTracker x = line();
        for (int edge = 1; edge < 10; edge++) {
            x.addEdge(0, 1, 0);
        }
        return x;
    }

    /**
     * The loop in epoch 2: worker 0 has requests for 20 and 100 at node 1, and a message for worker 1
     * with 0 on the feedback edge holds back 20 alone. 17 updates wait for worker 1, none for worker 0.
     */
    static ProgressTracker twoRequests() {
        ProgressTracker x = loop();
        x.send(0, 0);
        x.send(0, 0);
        x.advance(0);
        x.send(0, 0);
        x.advance(0);
        x.process(0, 0, 2, 0, 0);
        x.process(0, 0, 2, 1, 0);
        x.process(0, 1, 2, 0, 0);
        x.process(0, 1, 0, 0, 1);
        x.process(0, 0, 0, 0, 1);
        return x;
    }

    /** The loop with so many messages with 0 for a worker on the feedback edge. */
    static ProgressTracker feedbackWith(int messages, int worker) {
        ProgressTracker x = loop();
        for (int i = 0; i < messages; i++) {
            x.send(0, 0);
            x.process(0, 0, 2, worker, 0);
        }
        return x;
    }

    /** The loop with so many requests of worker 0 for 0 at node 1. */
    static ProgressTracker requestsOf(int requests) {
        return requestsOf(requests, 0);
    }

    /** The loop with so many requests of a worker for 0 at node 1. */
    static ProgressTracker requestsOf(int requests, int worker) {
        ProgressTracker x = loop();
        for (int i = 0; i < requests; i++) {
            x.send(0, worker);
            x.process(worker, 0, 0, 0, 1);
        }
        return x;
    }

    /** Lets a message of worker 0 go nine times round the feedback edge of loop(), so that it stands there with 90. */
    static ProgressTracker nineRounds(ProgressTracker x) {
        x.send(0, 0);
        x.process(0, 0, 2, 0, 0);
        for (int round = 0; round < 9; round++) {
            x.process(0, 1, 2, 0, 0);
        }
        return x;
    }
}
