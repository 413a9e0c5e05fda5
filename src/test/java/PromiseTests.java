/** At least one test for each promise of the document, with answers that were worked out by hand. */
public final class PromiseTests {
    private static final int OUT = ProgressTracker.OUT_OF_RANGE;
    private static final int NOT = ProgressTracker.NOT_POSSIBLE;
    private static final int FULL = ProgressTracker.FULL;
    private static final int EMPTY = ProgressTracker.NOTHING_SAVED;
    private static final int NONE = ProgressTracker.NONE;
    private static final int[] BAD_FLAGS = {-1, 2, 3, Integer.MAX_VALUE, Integer.MIN_VALUE};

    private static final Due DUE = new Due("PromiseTests");

    public static void main(String[] args) {
        examples();
        newObject();
        addNode();
        addNodeCountsInputs();
        addEdge();
        addEdgeCycles();
        addEdgeOrderOfChecks();
        buildingEnds();
        kind();
        move();
        couldResultIn();
        earliest();
        earliestGoesRoundNines();
        send();
        advance();
        close();
        processRefuses();
        processOrderOfChecks();
        processFull();
        processUpdates();
        processDrops();
        deliver();
        deliverChoosesTheLeastThatCan();
        deliverUpdates();
        receive();
        messages();
        requests();
        deliverable();
        count();
        active();
        frontier();
        pending();
        delivered();
        violations();
        undo();
        undoRestoresAll();
        errorCount();
        digest();
        beyondTheLastCall();
        DUE.end();
    }

    private static void due(String what, long got, long want) {
        DUE.same(what, got, want);
    }

    private static void examples() {
        ProgressTracker a = new ProgressTracker();
        due("1 addNode", a.addNode(0, 1), 0);
        due("1 addNode", a.addNode(1, 0), 1);
        due("1 addEdge", a.addEdge(0, 1, 0), 0);
        due("1 addEdge", a.addEdge(1, 1, 1), 1);
        due("1 earliest", a.earliest(1, 30, 7), 30);
        due("1 couldResultIn", a.couldResultIn(1, 30, 1, 40), 1);
        due("1 couldResultIn", a.couldResultIn(1, 30, 1, 20), 0);
        due("1 addEdge", a.addEdge(1, 1, 0), -3);

        ProgressTracker b = new ProgressTracker();
        due("2 addNode", b.addNode(0, 1), 0);
        due("2 addNode", b.addNode(0, 0), 1);
        due("2 addEdge", b.addEdge(0, 1, 0), 0);
        due("2 send", b.send(0, 0), 0);
        due("2 process", b.process(0, 0, 0, 0, 1), 0);
        due("2 deliverable", b.deliverable(0, 1), -1);
        due("2 advance", b.advance(0), 1);
        due("2 deliverable", b.deliverable(0, 1), 0);
        due("2 deliver", b.deliver(0, 1, 0, 0), 0);

        ProgressTracker c = new ProgressTracker();
        due("3 addNode", c.addNode(0, 1), 0);
        due("3 addNode", c.addNode(0, 0), 1);
        due("3 addEdge", c.addEdge(0, 1, 0), 0);
        due("3 send", c.send(0, 1), 0);
        due("3 process", c.process(1, 0, 0, 0, 0), 0);
        due("3 count", c.count(1, 6, 0), 999);
        due("3 receive", c.receive(1, 1), 1);
        due("3 count", c.count(1, 6, 0), 1000);
        due("3 pending", c.pending(0), 1);

        ProgressTracker d = new ProgressTracker();
        due("4 addNode", d.addNode(1, 0), 0);
        due("4 addEdge", d.addEdge(0, 0, 1), 0);
        due("4 move", d.move(0, 90), -1);
        due("4 move", d.move(0, 80), 90);
        due("4 move", d.move(0, 85), -2);

        ProgressTracker e = new ProgressTracker();
        due("5 addNode", e.addNode(1, 1), -2);
        due("5 deliver", e.deliver(0, 0, 0, 0), -2);
        due("5 undo", e.undo(), -5);
    }

    private static void newObject() {
        ProgressTracker x = new ProgressTracker();
        due("digest of a new object", x.digest(), hash(0, 0, 0, 0, 0, 0, 0, 0, 0, 0, 0, 0, 0, 0, 0));
        due("no edge", x.kind(0), OUT);
        due("no node", x.requests(0, 0), OUT);
        due("no event yet", x.addNode(2, 0), 0);
        due("another object is not touched", new ProgressTracker().errorCount(OUT), 0);
    }

    private static void addNode() {
        ProgressTracker x = new ProgressTracker();
        due("depth -1", x.addNode(-1, 0), OUT);
        due("depth 3", x.addNode(3, 0), OUT);
        due("input at depth 1", x.addNode(1, 1), OUT);
        due("input at depth 2", x.addNode(2, 1), OUT);
        for (int flag : BAD_FLAGS) {
            due("input " + flag, x.addNode(0, flag), OUT);
        }
        for (int node = 0; node < 6; node++) {
            due("node " + node, x.addNode(node % 3, node == 3 ? 1 : 0), node);
        }
        due("seventh node", x.addNode(0, 0), FULL);
        due("range before full", x.addNode(0, 2), OUT);
        due("OUT_OF_RANGE", x.errorCount(OUT), 5 + BAD_FLAGS.length);
        due("FULL", x.errorCount(FULL), 1);
        due("saved", x.undo(), 2);
        due("number again", x.addNode(1, 0), 5);
    }

    private static void addNodeCountsInputs() {
        ProgressTracker x = new ProgressTracker();
        x.addNode(0, 0);
        x.addNode(0, 1);
        for (int worker = 0; worker < 2; worker++) {
            due("no input", x.count(worker, 0, 0), 1000);
            due("input", x.count(worker, 1, 0), 1001);
            due("pending", x.pending(worker), 0);
            due("active", x.active(worker), 1);
        }
        x.undo();
        due("active after undo", x.active(1), 0);
    }

    private static void addEdge() {
        ProgressTracker x = new ProgressTracker();
        x.addNode(0, 1);
        x.addNode(0, 0);
        x.addNode(1, 0);
        x.addNode(2, 0);
        due("no node from", x.addEdge(4, 1, 0), OUT);
        due("no node to", x.addEdge(0, 4, 0), OUT);
        due("from -1", x.addEdge(-1, 1, 0), OUT);
        due("to -1", x.addEdge(1, -1, 0), OUT);
        for (int flag : BAD_FLAGS) {
            due("feedback " + flag, x.addEdge(2, 2, flag), OUT);
        }
        due("to an input", x.addEdge(1, 0, 0), NOT);
        due("from an input to itself", x.addEdge(0, 0, 0), NOT);
        due("two depths down", x.addEdge(1, 3, 0), NOT);
        due("two depths up", x.addEdge(3, 1, 0), NOT);
        due("feedback at depth 0", x.addEdge(0, 1, 1), NOT);
        due("feedback that enters", x.addEdge(1, 2, 1), NOT);
        due("feedback that leaves", x.addEdge(2, 1, 1), NOT);
        due("feedback at depth 1", x.addEdge(2, 2, 1), 0);
        due("feedback at depth 2", x.addEdge(3, 3, 1), 1);
        due("plain", x.addEdge(0, 1, 0), 2);
        due("the same again", x.addEdge(0, 1, 0), 3);
        due("entering", x.addEdge(1, 2, 0), 4);
        due("entering", x.addEdge(2, 3, 0), 5);
        due("errors", x.errorCount(NOT), 7);
        due("saved", x.undo(), 2);
        due("number again", x.addEdge(2, 3, 0), 5);
    }

    private static void addEdgeCycles() {
        ProgressTracker x = new ProgressTracker();
        x.addNode(0, 0);
        x.addNode(1, 0);
        x.addNode(1, 0);
        x.addNode(2, 0);
        x.addNode(2, 0);
        x.addNode(0, 0);
        due("plain loop at depth 0", x.addEdge(0, 0, 0), NOT);
        due("plain loop at depth 1", x.addEdge(1, 1, 0), NOT);
        due("plain loop at depth 2", x.addEdge(3, 3, 0), NOT);
        due("1-3", x.addEdge(1, 3, 0), 0);
        due("3-4 inner feedback", x.addEdge(3, 4, 1), 1);
        due("4-2", x.addEdge(4, 2, 0), 2);
        due("inner feedback is not at the least depth", x.addEdge(2, 1, 0), NOT);
        due("nor here", x.addEdge(4, 1, 0), NOT);
        due("outer feedback is", x.addEdge(2, 1, 1), 3);
        due("4-3 back over the inner feedback", x.addEdge(4, 3, 0), 4);
        due("3-4 plain would close 4-3", x.addEdge(3, 4, 0), NOT);
        due("3-2 is on cycles with 2-1", x.addEdge(3, 2, 0), 5);
        due("2-4 would make 2-4-2", x.addEdge(2, 4, 0), NOT);
        due("out to depth 0", x.addEdge(2, 0, 0), 6);
        due("0-5", x.addEdge(0, 5, 0), 7);
        due("a cycle over depth 0", x.addEdge(5, 1, 0), NOT);
        due("a cycle at depth 0", x.addEdge(5, 0, 0), NOT);
        due("refused edges leave nothing behind", x.kind(8), OUT);
        due("in from elsewhere", x.addEdge(5, 0, 1), NOT);
        due("0-5 once more", x.addEdge(0, 5, 0), 8);
    }

    private static void addEdgeOrderOfChecks() {
        ProgressTracker x = Graphs.line();
        for (int edge = 1; edge < 10; edge++) {
            due("edge", x.addEdge(0, 1, 0), edge);
        }
        due("eleventh edge", x.addEdge(0, 1, 0), FULL);
        due("not possible before full", x.addEdge(1, 1, 0), NOT);
        due("range before full", x.addEdge(0, 2, 0), OUT);
        due("edge 9", x.kind(9), 0);
        due("edge 10", x.kind(10), OUT);
        x.send(0, 0);
        due("event before full", x.addEdge(0, 1, 0), NOT);
        due("range before event", x.addEdge(0, 1, 2), OUT);
    }

    private static void buildingEnds() {
        ProgressTracker x = Graphs.line();
        due("receiving is no event", x.receive(0, 1), 0);
        due("node", x.addNode(0, 1), 2);
        due("a refused event is none", x.advance(1), NOT);
        due("edge", x.addEdge(2, 1, 0), 1);
        due("event", x.close(2), 0);
        due("no node after an event", x.addNode(0, 0), NOT);
        due("no edge after an event", x.addEdge(0, 1, 0), NOT);
        due("range before event", x.addNode(3, 0), OUT);
        x.undo();
        due("undone: node", x.addNode(0, 0), 3);
        due("undone: edge", x.addEdge(0, 3, 0), 2);
        x.advance(0);
        due("advance is an event", x.addEdge(0, 3, 0), NOT);
        x.undo();
        x.send(0, 0);
        due("send is an event", x.addEdge(0, 3, 0), NOT);
        ProgressTracker full = new ProgressTracker();
        for (int node = 0; node < 6; node++) {
            full.addNode(0, 1);
        }
        full.close(0);
        due("event before full", full.addNode(0, 0), NOT);
    }

    private static void kind() {
        ProgressTracker x = Graphs.loop();
        due("entering", x.kind(0), 1);
        due("feedback", x.kind(1), 3);
        due("leaving", x.kind(2), 2);
        due("plain", Graphs.line().kind(0), 0);
        due("no edge", x.kind(3), OUT);
        due("edge -1", x.kind(-1), OUT);
        due("errors", x.errorCount(OUT), 2);
    }

    private static void move() {
        ProgressTracker x = Graphs.nines();
        due("leaving clears the second counter", x.move(0, 537), 530);
        due("outer feedback", x.move(1, 530), 540);
        due("outer feedback at 9", x.move(1, 590), NONE);
        due("entering", x.move(2, 540), 540);
        due("inner feedback", x.move(3, 538), 539);
        due("inner feedback with the first counter 9", x.move(3, 998), 999);
        due("inner feedback at 9", x.move(3, 539), NONE);
        due("second counter at depth 1", x.move(2, 541), OUT);
        due("time -1", x.move(3, -1), OUT);
        due("time 1000", x.move(3, 1000), OUT);
        due("no edge", x.move(4, 0), OUT);
        due("edge -1", x.move(-1, 0), OUT);
        ProgressTracker y = Graphs.loop();
        due("leaving clears the first counter", y.move(2, 470), 400);
        due("entering from depth 0", y.move(0, 400), 400);
        due("counter at depth 0", y.move(0, 410), OUT);
        due("plain", Graphs.line().move(0, 900), 900);
        due("nothing saved", Graphs.line().undo(), 2);
    }

    private static void couldResultIn() {
        ProgressTracker x = Graphs.loop();
        due("itself", x.couldResultIn(1, 30, 1, 30), 1);
        due("later epoch", x.couldResultIn(1, 30, 1, 130), 1);
        due("later epoch, lesser counters", x.couldResultIn(1, 30, 1, 120), 0);
        due("earlier epoch", x.couldResultIn(1, 130, 1, 40), 0);
        due("from the edge one has to go round", x.couldResultIn(7, 30, 7, 30), 1);
        due("feedback edge to its node", x.couldResultIn(7, 30, 1, 30), 0);
        due("feedback edge to its node", x.couldResultIn(7, 30, 1, 40), 1);
        due("out of the loop", x.couldResultIn(1, 90, 2, 0), 1);
        due("not against the edges", x.couldResultIn(2, 0, 0, 900), 0);
        due("lexicographic", Graphs.nines().couldResultIn(2, 19, 2, 20), 1);
        due("lexicographic", Graphs.nines().couldResultIn(2, 20, 2, 19), 0);
        due("counters are not compared apart", Graphs.nines().couldResultIn(2, 9, 2, 10), 1);
        due("no location 3", x.couldResultIn(3, 0, 0, 0), OUT);
        due("no location 9", x.couldResultIn(0, 0, 9, 0), OUT);
        due("location -1", x.couldResultIn(-1, 0, 0, 0), OUT);
        due("location 16", x.couldResultIn(0, 0, 16, 0), OUT);
        due("t not at a", x.couldResultIn(0, 10, 1, 10), OUT);
        due("u not at b", x.couldResultIn(1, 10, 2, 10), OUT);
        due("u at an edge is before the move", x.couldResultIn(1, 10, 8, 10), 1);
        due("u not at the edge", x.couldResultIn(1, 10, 8, 11), OUT);
        due("t 1000", x.couldResultIn(0, 1000, 1, 0), OUT);
        due("u -100", x.couldResultIn(0, 0, 0, -100), OUT);
    }

    private static void earliest() {
        ProgressTracker x = Graphs.loop();
        due("itself", x.earliest(1, 330, 1), 330);
        due("feedback edge to its node", x.earliest(7, 330, 1), 340);
        due("feedback edge to itself", x.earliest(7, 330, 7), 330);
        due("out", x.earliest(7, 330, 2), 300);
        due("impossible move", x.earliest(7, 390, 2), NONE);
        due("no way", x.earliest(2, 300, 1), NONE);
        due("in", x.earliest(0, 900, 8), 900);
        due("counter at depth 0", x.earliest(0, 910, 8), OUT);
        due("no a", x.earliest(5, 0, 1), OUT);
        due("no b", x.earliest(0, 0, 5), OUT);
        due("no edge b", x.earliest(0, 0, 9), OUT);
        due("b -1", x.earliest(0, 0, -1), OUT);
        due("t -1", x.earliest(1, -1, 1), OUT);
        due("errors", x.errorCount(OUT), 6);
        earliestTakesTheBestWay();
        x.undo();
        due("after undo the edge is gone", x.earliest(1, 330, 2), NONE);
        x.addEdge(1, 2, 0);
        due("and here again", x.earliest(1, 330, 2), 300);
    }

    private static void earliestTakesTheBestWay() {
        ProgressTracker x = new ProgressTracker();
        x.addNode(1, 0);
        x.addNode(1, 0);
        x.addNode(1, 0);
        x.addEdge(0, 1, 1);
        due("only the feedback edge", x.earliest(0, 20, 1), 30);
        x.addEdge(0, 2, 0);
        due("another edge, no other way", x.earliest(0, 20, 1), 30);
        x.addEdge(2, 1, 0);
        due("the longer way is earlier", x.earliest(0, 20, 1), 20);
        due("the longer way is earlier", x.couldResultIn(0, 20, 1, 20), 1);
        due("the longer way is possible at 9", x.earliest(0, 90, 1), 90);
    }

    // The least timestamp at node 2 is 9, which can't go on; the way round the outer loop makes it 10, which can.
    private static void earliestGoesRoundNines() {
        ProgressTracker x = Graphs.nines();
        due("straight on", x.earliest(2, 8, 3), 9);
        due("once round", x.earliest(2, 9, 3), 11);
        due("once round", x.couldResultIn(2, 9, 3, 11), 1);
        due("once round", x.couldResultIn(2, 9, 3, 10), 0);
        due("in its epoch", x.couldResultIn(2, 409, 3, 311), 0);
        due("in its epoch", x.earliest(2, 479, 3), 481);
        due("all nines", x.earliest(2, 99, 3), NONE);
        due("from the edge at 9", x.earliest(9, 9, 3), NONE);
    }

    private static void send() {
        ProgressTracker x = Graphs.loop();
        due("no edge", x.send(3, 0), OUT);
        due("edge -1", x.send(-1, 0), OUT);
        for (int flag : BAD_FLAGS) {
            due("worker " + flag, x.send(0, flag), OUT);
        }
        due("not from an input", x.send(1, 0), NOT);
        due("range before possible", x.send(1, 2), OUT);
        for (int i = 0; i < 12; i++) {
            due("send", x.send(0, 1), 0);
        }
        due("full for worker 1", x.send(0, 1), FULL);
        due("not for worker 0", x.send(0, 0), 0);
        due("messages", x.messages(1, 0), 12);
        due("performed by worker 0", x.count(0, 6, 0), 1013);
        due("not seen by worker 1", x.count(1, 6, 0), 1000);
        due("pending", x.pending(1), 13);
        due("advance", x.advance(0), 1);
        due("open epoch", x.send(0, 0), 100);
        due("time", x.messageTime(0, 0, 1), 100);
        x.close(0);
        due("closed before full", x.send(0, 1), NOT);
    }

    private static void advance() {
        ProgressTracker x = Graphs.line();
        due("no node", x.advance(2), OUT);
        due("node -1", x.advance(-1), OUT);
        due("no input", x.advance(1), NOT);
        for (int epoch = 1; epoch <= 9; epoch++) {
            due("advance", x.advance(0), epoch);
        }
        due("epoch 9", x.advance(0), NOT);
        due("new epoch", x.count(0, 0, 900), 1001);
        due("old epoch", x.count(0, 0, 800), 1000);
        due("pending", x.pending(1), 18);
        x.receive(1, 1);
        due("first the new one", x.count(1, 0, 100), 1001);
        due("then the old one", x.count(1, 0, 0), 1001);
        x.receive(1, 1);
        due("then the old one", x.count(1, 0, 0), 1000);
        due("its own queue", x.pending(0), 0);
        x.close(0);
        due("closed", x.advance(0), NOT);
    }

    private static void close() {
        ProgressTracker x = Graphs.line();
        due("no node", x.close(2), OUT);
        due("node -1", x.close(-1), OUT);
        due("no input", x.close(1), NOT);
        x.advance(0);
        x.advance(0);
        due("the open epoch", x.close(0), 2);
        due("again", x.close(0), NOT);
        due("own view", x.active(0), 0);
        due("pending", x.pending(1), 5);
        x.receive(1, 99);
        due("other view", x.active(1), 0);
        x.undo();
        x.undo();
        due("open again", x.close(0), 2);
    }

    private static void processRefuses() {
        ProgressTracker x = Graphs.loop();
        x.send(0, 0);
        for (int flag : BAD_FLAGS) {
            due("worker", x.process(flag, 0, 0, 0, 0), OUT);
            due("target", x.process(0, 0, 0, flag, 0), OUT);
            due("request", x.process(0, 0, 0, 0, flag), OUT);
        }
        due("no edge", x.process(0, 3, 0, 0, 0), OUT);
        due("edge -1", x.process(0, -1, 0, 0, 0), OUT);
        due("no output edge", x.process(0, 0, 8, 0, 0), OUT);
        due("bit 31", x.process(0, 0, Integer.MIN_VALUE, 0, 0), OUT);
        due("all bits", x.process(0, 0, -1, 0, 0), OUT);
        due("output elsewhere", x.process(0, 0, 1, 0, 0), NOT);
        due("one output elsewhere", x.process(0, 0, 7, 0, 0), NOT);
        due("no message", x.process(1, 0, 0, 0, 0), NOT);
        due("no message", x.process(0, 1, 0, 0, 0), NOT);
        due("nothing happened", x.messages(0, 0), 1);
        due("nothing happened", x.pending(0), 0);
        due("both outputs", x.process(0, 0, 6, 1, 0), 0);
        due("one each", x.messages(1, 1), 1);
        due("one each", x.messages(1, 2), 1);
        due("not for worker 0", x.messages(0, 1), 0);
    }

    private static void processOrderOfChecks() {
        ProgressTracker x = Graphs.loop();
        due("range before message", x.process(0, 0, 0, 0, 2), OUT);
        due("outputs' range before message", x.process(0, 0, 8, 0, 0), OUT);
        fillFeedback(x, 1);
        due("message before full", x.process(0, 0, 2, 1, 0), NOT);
        x.send(0, 0);
        due("outputs elsewhere before full", x.process(0, 0, 3, 1, 0), NOT);
        due("range before full", x.process(0, 0, 2, 1, 3), OUT);
        due("full", x.process(0, 0, 2, 1, 0), FULL);
    }

    // Puts 12 messages with timestamp 0 on edge 1 of Graphs.loop() for a worker.
    private static void fillFeedback(ProgressTracker x, int worker) {
        for (int i = 0; i < 12; i++) {
            x.send(0, 0);
            due("fill", x.process(0, 0, 2, worker, 0), 0);
        }
    }

    private static void processFull() {
        ProgressTracker x = Graphs.loop();
        fillFeedback(x, 0);
        x.send(0, 0);
        due("full", x.process(0, 0, 2, 0, 0), FULL);
        due("the taken message counts on its edge", x.process(0, 1, 2, 0, 0), FULL);
        due("not for the other worker", x.process(0, 1, 2, 1, 0), 10);
        due("now there is room", x.process(0, 1, 2, 0, 0), 10);
        due("ordered by the time when put", x.messageTime(0, 1, 10), 10);
        ProgressTracker y = Graphs.loop();
        for (int i = 0; i < 13; i++) {
            y.send(0, 0);
            due("request", y.process(0, 0, 0, 0, 1), i < 12 ? 0 : FULL);
        }
        due("12 requests", y.requests(0, 1), 12);
        y.send(0, 1);
        due("the other worker has its own", y.process(1, 0, 4, 0, 1), 0);
        due("12 at all nodes together", y.process(0, 2, 0, 0, 1), FULL);
        due("without a request", y.process(0, 2, 0, 0, 0), 0);
    }

    private static void processUpdates() {
        ProgressTracker x = Graphs.loop();
        x.send(0, 1);
        x.receive(1, 1);
        due("process", x.process(1, 0, 6, 0, 1), 0);
        due("own view: taken", x.count(1, 6, 0), 1000);
        due("own view: put", x.count(1, 7, 0), 1001);
        due("own view: requested", x.count(1, 1, 0), 1001);
        due("requests", x.requests(1, 1), 1);
        due("pending", x.pending(0), 4);
        int[] places = {7, 8, 1, 6};
        int[] before = {1000, 1000, 1000, 1001};
        int[] after = {1001, 1001, 1001, 1000};
        for (int i = 0; i < 4; i++) {
            due("update " + i + " not yet", x.count(0, places[i], 0), before[i]);
            due("receive", x.receive(0, 1), 1);
            due("update " + i, x.count(0, places[i], 0), after[i]);
        }
        ProgressTracker y = Graphs.loop();
        y.send(0, 0);
        y.advance(0);
        y.send(0, 0);
        due("the oldest", y.process(0, 0, 4, 0, 0), 0);
        due("then the next", y.process(0, 0, 4, 0, 0), 100);
        due("in this order", y.messageTime(0, 2, 0), 0);
        due("in this order", y.messageTime(0, 2, 1), 100);
    }

    private static void processDrops() {
        ProgressTracker x = Graphs.loop();
        x.send(0, 0);
        x.process(0, 0, 2, 0, 0);
        for (int counter = 1; counter <= 9; counter++) {
            due("round", x.process(0, 1, 2, 0, 0), 10 * counter);
        }
        x.receive(1, 99);
        due("requests first", x.requests(0, 1), 0);
        due("dropped", x.process(0, 1, 6, 1, 1), NONE);
        due("no request", x.requests(0, 1), 0);
        due("no message", x.messages(1, 1) + x.messages(1, 2) + x.messages(0, 1), 0);
        due("one update", x.pending(1), 1);
        due("at the edge", x.count(0, 7, 90), 1000);
        due("at the edge", x.count(1, 7, 90), 1001);
        due("it is saved", x.undo(), 2);
        due("undone", x.messageTime(0, 1, 0), 90);
        dropWhenFull();
    }

    // A message that would be dropped is refused all the same if an edge or the requests are full.
    private static void dropWhenFull() {
        ProgressTracker x = Graphs.loop();
        fillFeedback(x, 1);
        x.send(0, 0);
        x.process(0, 0, 2, 0, 0);
        for (int counter = 1; counter <= 9; counter++) {
            x.process(0, 1, 2, 0, 0);
        }
        due("at 90", x.messageTime(0, 1, 0), 90);
        due("full edge", x.process(0, 1, 2, 1, 0), FULL);
        for (int i = 0; i < 12; i++) {
            x.send(0, 0);
            x.process(0, 0, 0, 0, 1);
        }
        due("full requests", x.process(0, 1, 0, 0, 1), FULL);
        due("elsewhere", x.process(0, 1, 1, 0, 0), NOT);
        due("dropped", x.process(0, 1, 2, 0, 0), NONE);
    }

    private static void deliver() {
        ProgressTracker x = Graphs.loop();
        x.send(0, 0);
        x.process(0, 0, 0, 0, 1);
        for (int flag : BAD_FLAGS) {
            due("worker", x.deliver(flag, 1, 0, 0), OUT);
            due("target", x.deliver(0, 1, 0, flag), OUT);
        }
        due("no node", x.deliver(0, 3, 0, 0), OUT);
        due("node -1", x.deliver(0, -1, 0, 0), OUT);
        due("no output edge", x.deliver(0, 1, 8, 0), OUT);
        due("bit 31", x.deliver(0, 1, Integer.MIN_VALUE, 0), OUT);
        due("the input may still send", x.deliver(0, 1, 0, 0), NOT);
        x.close(0);
        due("outputs elsewhere", x.deliver(0, 1, 1, 0), NOT);
        due("not requested by worker 1", x.deliver(1, 1, 0, 0), NOT);
        due("not requested at node 2", x.deliver(0, 2, 0, 0), NOT);
        due("delivered", x.deliver(0, 1, 0, 0), 0);
        due("only once", x.deliver(0, 1, 0, 0), NOT);
        ProgressTracker y = Graphs.loop();
        fillFeedback(y, 1);
        y.send(0, 0);
        y.process(0, 0, 0, 0, 1);
        due("possible before full", y.deliver(0, 1, 2, 1), NOT);
        y.close(0);
        due("elsewhere before full", y.deliver(0, 1, 3, 1), NOT);
        due("range before full", y.deliver(0, 1, 10, 1), OUT);
        due("full", y.deliver(0, 1, 2, 1), FULL);
        due("not for worker 0", y.deliver(0, 1, 2, 0), 0);
    }

    private static void deliverChoosesTheLeastThatCan() {
        ProgressTracker x = Graphs.twoRequests();
        due("two requests", x.requests(0, 1), 2);
        due("100 is not held back", x.deliverable(0, 1), 100);
        due("deliver", x.deliver(0, 1, 0, 0), 100);
        due("20 is", x.deliver(0, 1, 0, 0), NOT);
        ProgressTracker y = Graphs.twoRequests();
        due("the message goes", y.process(1, 1, 0, 0, 0), 10);
        due("worker 0 does not know", y.deliverable(0, 1), 100);
        y.receive(0, 99);
        due("now it knows", y.deliverable(0, 1), 20);
        due("the least one", y.deliver(0, 1, 0, 0), 20);
        due("the other one", y.deliver(0, 1, 0, 0), 100);
    }

    private static void deliverUpdates() {
        ProgressTracker x = Graphs.loop();
        x.send(0, 0);
        x.send(0, 0);
        x.process(0, 0, 0, 0, 1);
        x.process(0, 0, 0, 0, 1);
        x.close(0);
        x.receive(1, 99);
        due("two equal requests", x.count(0, 1, 0), 1002);
        due("deliver", x.deliver(0, 1, 6, 1), 0);
        due("own view: at the node", x.count(0, 1, 0), 1001);
        due("own view: at the edges", x.count(0, 7, 0) + x.count(0, 8, 0), 2002);
        due("one request is left", x.requests(0, 1), 1);
        due("messages", x.messages(1, 1) + x.messages(1, 2), 2);
        due("pending", x.pending(1), 3);
        x.receive(1, 1);
        due("first edge 1", x.count(1, 7, 0), 1001);
        due("then edge 2", x.count(1, 8, 0), 1000);
        x.receive(1, 1);
        due("then edge 2", x.count(1, 8, 0), 1001);
        due("then the node", x.count(1, 1, 0), 1002);
        x.receive(1, 1);
        due("then the node", x.count(1, 1, 0), 1001);
        due("the second one", x.deliver(0, 1, 0, 0), 0);
    }

    private static void receive() {
        ProgressTracker x = Graphs.line();
        due("count 0", x.receive(0, 0), OUT);
        due("count 100", x.receive(0, 100), OUT);
        due("count -1", x.receive(0, -1), OUT);
        for (int flag : BAD_FLAGS) {
            due("worker", x.receive(flag, 1), OUT);
        }
        due("empty queue", x.receive(1, 99), 0);
        due("even that is saved", x.undo(), 2);
        for (int i = 0; i < 60; i++) {
            x.send(0, 0);
            x.process(0, 0, 0, 0, 0);
        }
        due("pending", x.pending(1), 120);
        due("some", x.receive(1, 3), 3);
        due("in order", x.count(1, 6, 0), 1001);
        due("at most 99", x.receive(1, 99), 99);
        due("the rest", x.receive(1, 99), 18);
        due("none is left", x.pending(1), 0);
        due("all applied", x.count(1, 6, 0), 1000);
        due("worker 0 got none", x.receive(0, 5), 0);
        x.undo();
        x.undo();
        due("back in the queue", x.pending(1), 18);
    }

    private static void messages() {
        ProgressTracker x = Graphs.line();
        due("no edge", x.messages(0, 1), OUT);
        due("edge -1", x.messages(0, -1), OUT);
        due("no edge", x.messageTime(0, 1, 0), OUT);
        due("index -1", x.messageTime(0, 0, -1), OUT);
        for (int flag : BAD_FLAGS) {
            due("worker", x.messages(flag, 0), OUT);
            due("worker", x.messageTime(flag, 0, 0), OUT);
        }
        x.send(0, 1);
        x.advance(0);
        x.send(0, 1);
        due("worker 1", x.messages(1, 0), 2);
        due("worker 0", x.messages(0, 0), 0);
        due("oldest", x.messageTime(1, 0, 0), 0);
        due("next", x.messageTime(1, 0, 1), 100);
        due("no more", x.messageTime(1, 0, 2), NONE);
        due("far off", x.messageTime(1, 0, Integer.MAX_VALUE), NONE);
        due("not of worker 0", x.messageTime(0, 0, 0), NONE);
        x.process(1, 0, 0, 0, 0);
        due("the oldest has gone", x.messageTime(1, 0, 0), 100);
        due("one is left", x.messageTime(1, 0, 1), NONE);
        due("before the move", loopMessage(), 0);
    }

    private static int loopMessage() {
        ProgressTracker x = Graphs.loop();
        x.send(0, 0);
        x.process(0, 0, 2, 0, 0);
        return x.messageTime(0, 1, 0);
    }

    private static void requests() {
        ProgressTracker x = Graphs.twoRequests();
        due("both", x.requests(0, 1), 2);
        due("none at node 2", x.requests(0, 2), 0);
        due("none of worker 1", x.requests(1, 1), 0);
        due("no node", x.requests(0, 3), OUT);
        due("node -1", x.requests(0, -1), OUT);
        for (int flag : BAD_FLAGS) {
            due("worker", x.requests(flag, 1), OUT);
        }
        x.deliver(0, 1, 0, 0);
        due("one delivered", x.requests(0, 1), 1);
    }

    private static void deliverable() {
        ProgressTracker x = Graphs.twoRequests();
        due("least", x.deliverable(0, 1), 100);
        due("none at node 2", x.deliverable(0, 2), NONE);
        due("none of worker 1", x.deliverable(1, 1), NONE);
        due("no node", x.deliverable(0, 3), OUT);
        due("node -1", x.deliverable(1, -1), OUT);
        for (int flag : BAD_FLAGS) {
            due("worker", x.deliverable(flag, 1), OUT);
        }
        due("nothing is delivered by asking", x.requests(0, 1), 2);
        ProgressTracker y = Graphs.line();
        y.send(0, 1);
        y.process(1, 0, 0, 0, 1);
        y.advance(0);
        due("worker 1 does not know of the epoch", y.deliverable(1, 1), NONE);
        y.receive(1, 2);
        due("one update is missing", y.deliverable(1, 1), NONE);
        y.receive(1, 1);
        due("now it knows", y.deliverable(1, 1), 0);
    }

    private static void count() {
        ProgressTracker x = Graphs.loop();
        due("no location", x.count(0, 3, 0), OUT);
        due("no edge", x.count(0, 9, 0), OUT);
        due("location 16", x.count(0, 16, 0), OUT);
        due("location -1", x.count(0, -1, 0), OUT);
        due("counter at depth 0", x.count(0, 0, 10), OUT);
        due("second counter at depth 1", x.count(0, 7, 11), OUT);
        due("time 1000", x.count(0, 0, 1000), OUT);
        for (int flag : BAD_FLAGS) {
            due("worker", x.count(flag, 0, 0), OUT);
        }
        due("zero", x.count(0, 7, 990), 1000);
        for (int i = 0; i < 5; i++) {
            x.send(0, 1);
            x.process(1, 0, 0, 0, 0);
        }
        due("five below", x.count(1, 6, 0), 995);
        due("five above", x.count(0, 6, 0), 1005);
        x.receive(1, 3);
        due("three received", x.count(1, 6, 0), 998);
        x.receive(0, 4);
        due("four received", x.count(0, 6, 0), 1001);
    }

    private static void active() {
        ProgressTracker x = Graphs.line();
        for (int flag : BAD_FLAGS) {
            due("worker", x.active(flag), OUT);
        }
        due("the input", x.active(0), 1);
        x.send(0, 1);
        x.send(0, 1);
        due("equal pointstamps are one", x.active(0), 2);
        x.process(1, 0, 0, 0, 0);
        due("a negative count is not active", x.active(1), 1);
        x.receive(1, 1);
        due("nor is zero", x.active(1), 1);
        x.receive(1, 1);
        due("one is", x.active(1), 2);
    }

    private static void frontier() {
        ProgressTracker x = Graphs.twoRequests();
        due("index -2", x.frontier(0, -2), OUT);
        for (int flag : BAD_FLAGS) {
            due("worker", x.frontier(flag, 0), OUT);
            due("worker", x.frontier(flag, -1), OUT);
        }
        due("active", x.active(0), 4);
        due("number", x.frontier(0, -1), 3);
        due("epoch 2 at the input", x.frontier(0, 0), 200);
        due("100 at node 1", x.frontier(0, 1), 1100);
        due("0 at edge 1", x.frontier(0, 2), 7000);
        due("no more", x.frontier(0, 3), NONE);
        due("far off", x.frontier(0, Integer.MAX_VALUE), NONE);
        due("worker 1 has seen nothing", x.frontier(1, -1), 1);
        due("worker 1 has seen nothing", x.frontier(1, 0), 0);
        x.process(1, 1, 0, 0, 0);
        x.receive(0, 99);
        due("20 and 100 at node 1", x.frontier(0, -1), 3);
        due("by timestamp", x.frontier(0, 1), 1020);
        due("by timestamp", x.frontier(0, 2), 1100);
        due("empty view", new ProgressTracker().frontier(1, -1), 0);
        due("empty view", new ProgressTracker().frontier(1, 0), NONE);
    }

    private static void pending() {
        ProgressTracker x = Graphs.line();
        for (int flag : BAD_FLAGS) {
            due("worker", x.pending(flag), OUT);
        }
        x.send(0, 1);
        due("for worker 1", x.pending(1), 1);
        due("not for worker 0", x.pending(0), 0);
        x.process(1, 0, 0, 0, 1);
        due("for worker 0", x.pending(0), 2);
        x.receive(0, 1);
        due("one received", x.pending(0), 1);
        x.undo();
        due("undone", x.pending(0), 2);
    }

    private static void delivered() {
        ProgressTracker x = Graphs.loop();
        due("none", x.delivered(), 0);
        x.send(0, 0);
        x.send(0, 1);
        x.process(0, 0, 0, 0, 1);
        x.process(1, 0, 0, 0, 1);
        x.close(0);
        x.receive(0, 99);
        x.receive(1, 99);
        x.deliver(0, 1, 0, 0);
        due("worker 0", x.delivered(), 1);
        x.deliver(1, 1, 0, 0);
        due("both workers", x.delivered(), 2);
        x.deliver(1, 1, 0, 0);
        due("refused", x.delivered(), 2);
        x.undo();
        due("undone", x.delivered(), 1);
    }

    // A frontier keeps every message away that would be a violation; what must not count comes close to one.
    private static void violations() {
        ProgressTracker x = Graphs.twoRequests();
        due("none", x.violations(), 0);
        due("100 is delivered", x.deliver(0, 1, 0, 0), 100);
        due("10 is less as a number, but not at most 100", x.process(1, 1, 4, 1, 0), 10);
        due("no violation", x.violations(), 0);
        due("0 at another node", x.process(1, 2, 0, 0, 0), 0);
        due("no violation", x.violations(), 0);
        x.send(0, 0);
        due("a later epoch", x.process(0, 0, 2, 0, 0), 200);
        due("a later round", x.process(0, 1, 0, 0, 0), 210);
        due("no violation", x.violations(), 0);
        violationsAfterUndo();
    }

    // A delivery that was undone does not make a violation, however often states are saved and restored after it.
    private static void violationsAfterUndo() {
        ProgressTracker x = Graphs.line();
        x.send(0, 0);
        x.process(0, 0, 0, 0, 1);
        x.advance(0);
        due("deliver", x.deliver(0, 1, 0, 0), 0);
        due("undo the delivery", x.undo(), 2);
        due("undo the advance", x.undo(), 1);
        x.receive(0, 1);
        x.receive(0, 1);
        due("undo a receipt", x.undo(), 2);
        due("send in epoch 0", x.send(0, 0), 0);
        due("process in epoch 0", x.process(0, 0, 0, 0, 0), 0);
        due("no violation", x.violations(), 0);
    }

    private static void undo() {
        ProgressTracker x = new ProgressTracker();
        due("nothing saved", x.undo(), EMPTY);
        x.addNode(0, 1);
        due("one", x.undo(), 0);
        due("nothing left", x.undo(), EMPTY);
        for (int node = 0; node < 5; node++) {
            x.addNode(0, 0);
        }
        due("at most three", x.undo(), 2);
        due("two", x.undo(), 1);
        due("three", x.undo(), 0);
        due("the older ones are dropped", x.undo(), EMPTY);
        due("two nodes are left", x.addNode(0, 0), 2);
        due("errors are not undone", x.errorCount(EMPTY), 3);
        ProgressTracker y = Graphs.line();
        due("a refused call saves nothing", y.advance(1), NOT);
        due("nor does a question", y.active(0), 1);
        due("the edge", y.undo(), 2);
        due("it has gone", y.kind(0), OUT);
        due("its error stays counted", y.errorCount(NOT), 1);
    }

    // Each undoable call in turn: the digest after undo is the one from before, but for the number of saved states.
    private static void undoRestoresAll() {
        for (int call = 0; call < 9; call++) {
            ProgressTracker x = Graphs.twoRequests();
            x.receive(1, 2);
            long before = x.digest();
            due("call " + call, undoable(x, call) < NONE ? 1 : 0, 0);
            due("undo " + call, x.undo(), 2);
            due("one state less after call " + call, x.digest(), before - 1);
        }
        ProgressTracker y = Graphs.line();
        long before = y.digest();
        y.addNode(0, 1);
        y.addEdge(2, 1, 0);
        y.undo();
        y.undo();
        due("building", y.digest(), before - 2);
    }

    private static int undoable(ProgressTracker x, int call) {
        return switch (call) {
            case 0 -> x.send(0, 1);
            case 1 -> x.advance(0);
            case 2 -> x.close(0);
            case 3 -> x.process(1, 1, 6, 0, 1);
            case 4 -> x.deliver(0, 1, 6, 1);
            case 5 -> x.receive(1, 99);
            case 6 -> x.receive(1, 1);
            case 7 -> x.process(1, 1, 2, 1, 0);
            default -> x.receive(0, 1);
        };
    }

    private static void errorCount() {
        ProgressTracker x = new ProgressTracker();
        for (int code = -5; code <= -2; code++) {
            due("none yet", x.errorCount(code), 0);
        }
        due("code -1", x.errorCount(-1), OUT);
        due("code -6", x.errorCount(-6), OUT);
        due("code 0", x.errorCount(0), OUT);
        due("least code", x.errorCount(Integer.MIN_VALUE), OUT);
        due("greatest code", x.errorCount(Integer.MAX_VALUE), OUT);
        due("they count", x.errorCount(OUT), 5);
        x.undo();
        x.advance(0);
        x.addNode(0, 0);
        x.advance(0);
        for (int node = 1; node < 9; node++) {
            x.addNode(0, 0);
        }
        due("OUT_OF_RANGE", x.errorCount(-2), 6);
        due("NOT_POSSIBLE", x.errorCount(-3), 1);
        due("FULL", x.errorCount(-4), 3);
        due("NOTHING_SAVED", x.errorCount(-5), 1);
        due("NONE is no error", x.frontier(0, 0), NONE);
        due("OUT_OF_RANGE", x.errorCount(-2), 6);
    }

    private static void digest() {
        ProgressTracker x = Graphs.twoRequests();
        x.kind(7);
        x.close(1);
        x.close(2);
        due("digest", x.digest(), hash(
                1, 2, 0, 0,
                3, 0, 2, 1, NONE, 0, NONE,
                3, 0, 1, 1, 1, 1, 3, 1, 2, 2,
                0, 0, 0, 0, NONE, 2, 100, 0, NONE, 4, 3, 200, 1100, 7000, 0,
                0, 1, 0, 0, 0, NONE, 0, NONE, 0, NONE, 1, 1, 0, 17,
                0, 0, 3));
        x.deliver(0, 1, 0, 0);
        x.close(0);
        due("digest", x.digest(), hash(
                1, 2, 0, 0,
                3, 0, -2, 1, NONE, 0, NONE,
                3, 0, 1, 1, 1, 1, 3, 1, 2, 2,
                0, 0, 0, 0, NONE, 1, NONE, 0, NONE, 2, 1, 7000, 0,
                0, 1, 0, 0, 0, NONE, 0, NONE, 0, NONE, 1, 1, 0, 19,
                1, 0, 3));
        due("asking changes nothing", x.digest(), x.digest());
    }

    private static long hash(int... values) {
        long h = 2731;
        for (int value : values) {
            h = 31 * h + value;
        }
        return h;
    }

    // Nothing is promised after 512 calls, but no call may throw even then.
    private static void beyondTheLastCall() {
        ProgressTracker x = Graphs.line();
        for (int i = 0; i < 20000; i++) {
            x.send(0, 0);
            x.process(0, 0, 0, 0, 0);
        }
        DUE.holds("updates are still pending", x.pending(1) > 0);
    }
}
