import java.util.function.Supplier;
import java.util.function.ToIntFunction;

/** The sentences about timestamps, moves, locations and ways: promises 5 to 7, and what the description says of them. */
public final class WaySentenceTests {
    private static final int OUT = ProgressTracker.OUT_OF_RANGE;
    private static final int NONE = ProgressTracker.NONE;

    private static final Due DUE = new Due("WaySentenceTests");

    public static void main(String[] args) throws Exception {
        Sentences.run(WaySentenceTests.class, DUE);
    }

    private static void due(String what, long got, long want) {
        DUE.same(what, got, want);
    }

    private static void refused(String what, Supplier<ProgressTracker> made, ToIntFunction<ProgressTracker> call) {
        Twins.refused(DUE, what, OUT, made, call);
    }

    private static void asked(String what, int answer, Supplier<ProgressTracker> made, ToIntFunction<ProgressTracker> call) {
        Twins.asked(DUE, what, answer, made, call);
    }

    // ---- timestamps

    @Holds(promise = 0, sentence = "A timestamp has an epoch and two loop counters, each from 0 to 9, and is written as the number 100 * epoch + 10 * (first counter) + (second counter).")
    static void p00Timestamps() {
        ProgressTracker x = Graphs.nodes(2);
        due("the least", x.earliest(0, 0, 0), 0);
        due("the greatest", x.earliest(0, 999, 0), 999);
        due("the greatest second counter", x.earliest(0, 9, 0), 9);
        due("the greatest first counter", x.earliest(0, 90, 0), 90);
        due("the greatest epoch", x.earliest(0, 900, 0), 900);
        for (int time : Bounds.outside(0, 999)) {
            refused("time " + time, () -> Graphs.nodes(2), y -> y.earliest(0, time, 0));
        }
    }

    @Holds(promise = 0, sentence = "A timestamp at a node of depth 1 has the second counter 0, and one at a node of depth 0 has both counters 0.")
    static void p00TimestampsByDepth() {
        ProgressTracker x = Graphs.nodes(0, 1);
        for (int time = 0; time < 120; time++) {
            due("at depth 0: " + time, x.count(0, 0, time), time % 100 == 0 ? 1000 : OUT);
            due("at depth 1: " + time, x.count(1, 1, time), time % 10 == 0 ? 1000 : OUT);
        }
        int[] wrongAtDepth0 = {901, 909, 910, 990, 999, -100, 1000};
        for (int time : wrongAtDepth0) {
            due("at depth 0: " + time, x.count(0, 0, time), OUT);
        }
        int[] wrongAtDepth1 = {981, 989, 991, 999, -10, 1000};
        for (int time : wrongAtDepth1) {
            due("at depth 1: " + time, x.count(0, 1, time), OUT);
        }
        due("greatest at depth 0", x.count(0, 0, 900), 1000);
        due("greatest at depth 1", x.count(0, 1, 990), 1000);
    }

    @Holds(promise = 0, sentence = "Timestamp s is at most timestamp t if the epoch of s is at most that of t, and the pair of counters of s is lexicographically at most the pair of counters of t (that is, 10 * first + second of s is at most that of t).")
    static void p00AtMost() {
        // s, t, whether s is at most t; at one node alone a pointstamp could result in another if it is at most that.
        int[][] rows = {
            {555, 555, 1}, {555, 556, 1}, {556, 555, 0}, {559, 560, 1}, {560, 559, 0}, {509, 590, 1}, {590, 509, 0},
            {555, 655, 1}, {655, 555, 0}, {555, 654, 0}, {555, 645, 0}, {555, 660, 1}, {99, 100, 0}, {100, 99, 0},
            {99, 199, 1}, {100, 199, 1}, {0, 999, 1}, {999, 0, 0}, {0, 0, 1}, {999, 999, 1}, {0, 900, 1}, {1, 900, 0},
            {19, 21, 1}, {21, 19, 0}, {110, 101, 0}, {101, 110, 1}};
        for (int[] row : rows) {
            ProgressTracker x = Graphs.nodes(2);
            due(row[0] + " and " + row[1], x.couldResultIn(0, row[0], 0, row[1]), row[2]);
        }
    }

    // ---- moves

    @Holds(promise = 0, sentence = "Moving along an edge changes a timestamp: a plain edge and an entering edge leave it as it is (an entering edge adds a counter, which is 0)")
    static void p00PlainAndEntering() {
        ProgressTracker x = Graphs.largest();
        due("plain at depth 2", x.move(2, 999), 999);
        due("plain at depth 2", x.move(2, 0), 0);
        due("entering from depth 0", x.move(0, 900), 900);
        due("entering from depth 1", x.move(1, 990), 990);
        due("plain at depth 0", Graphs.line().move(0, 900), 900);
        ProgressTracker y = Graphs.nodes(1, 1);
        y.addEdge(0, 1, 0);
        due("plain at depth 1", y.move(0, 990), 990);
        due("the added counter is 0", x.couldResultIn(1, 30, 2, 30), 1);
    }

    @Holds(promise = 0, sentence = "a leaving edge sets the counter with the number of the depth of its start to 0 (the second counter if the depth is 2, the first one if it is 1)")
    static void p00Leaving() {
        ProgressTracker x = Graphs.largest();
        due("second counter 9", x.move(4, 999), 990);
        due("second counter 1", x.move(4, 991), 990);
        due("second counter 0", x.move(4, 990), 990);
        due("all 0", x.move(4, 0), 0);
        due("first counter 9", x.move(6, 990), 900);
        due("first counter 1", x.move(6, 910), 900);
        due("first counter 0", x.move(6, 900), 900);
    }

    @Holds(promise = 0, sentence = "a feedback edge increases the counter with the number of the depth (the second counter if the depth is 2, the first one if it is 1) by 1, and if this counter is 9 already, the move is impossible")
    static void p00Feedback() {
        ProgressTracker x = Graphs.largest();
        for (int counter = 0; counter < 9; counter++) {
            due("second counter", x.move(3, 990 + counter), 991 + counter);
            due("first counter", x.move(5, 900 + 10 * counter), 910 + 10 * counter);
        }
        due("second counter 9", x.move(3, 999), NONE);
        due("second counter 9, the others 0", x.move(3, 9), NONE);
        due("first counter 9", x.move(5, 990), NONE);
        due("first counter 9, epoch 0", x.move(5, 90), NONE);
        due("first counter 9 in the inner loop", x.move(3, 98), 99);
        due("epoch 9", x.move(5, 980), 990);
    }

    @Holds(promise = 5, sentence = "OUT_OF_RANGE if there is no such edge")
    static void p05Edge() {
        for (int edge : Bounds.outside(0, 2)) {
            refused("edge " + edge, Graphs::loop, x -> x.move(edge, 0));
        }
        for (int edge : Bounds.outside(0, 9)) {
            refused("of ten edges: " + edge, Graphs::largest, x -> x.move(edge, 0));
        }
        for (int edge = -6; edge < 0; edge++) {
            int k = edge;
            refused("location " + (6 + k) + " is no edge", Graphs::largest, x -> x.move(k, 0));
        }
        asked("the least edge", 900, Graphs::largest, x -> x.move(0, 900));
        asked("the greatest edge", 999, Graphs::largest, x -> x.move(9, 998));
    }

    @Holds(promise = 5, sentence = {"`edge`: number of an edge", "`time`: a timestamp at the node at which the edge starts", "or time is not such a timestamp."})
    static void p05Time() {
        for (int edge = 0; edge < 10; edge++) {
            int k = edge;
            for (int time : Bounds.outside(0, 999)) {
                refused("edge " + edge + ", time " + time, Graphs::largest, x -> x.move(k, time));
            }
        }
        refused("entering edge: the start's depth 0 counts", Graphs::largest, x -> x.move(0, 10));
        refused("entering edge: the start's depth 1 counts", Graphs::largest, x -> x.move(1, 1));
        refused("leaving edge to depth 0", Graphs::largest, x -> x.move(6, 1));
        refused("feedback edge at depth 1", Graphs::largest, x -> x.move(5, 85));
        asked("leaving edge: the start's depth 2 counts", 10, Graphs::largest, x -> x.move(4, 11));
        asked("leaving edge: the start's depth 1 counts", 0, Graphs::largest, x -> x.move(6, 10));
    }

    @Holds(promise = 5, sentence = {"Moves a timestamp along an edge.", "Returns the timestamp after the move", "NONE if the move is impossible"})
    static void p05Impossible() {
        asked("possible for the last time", 90, Graphs::twoRequests, x -> x.move(1, 80));
        asked("impossible, which is no error", NONE, Graphs::twoRequests, x -> x.move(1, 90));
        asked("in the last epoch", NONE, Graphs::twoRequests, x -> x.move(1, 990));
    }

    // ---- locations and ways

    @Holds(promise = 0, sentence = "The locations are the nodes (location k for node k) and the edges (location 6 + k for edge k).")
    static void p00Locations() {
        ProgressTracker largest = Graphs.largest();
        ProgressTracker loop = Graphs.loop();
        for (int location = -2; location < 18; location++) {
            boolean here = location >= 0 && location < 16;
            due("of the largest graph: " + location, largest.earliest(location, 0, location), here ? 0 : OUT);
            boolean inLoop = here && (location < 3 || (location > 5 && location < 9));
            due("of the loop: " + location, loop.earliest(location, 0, location), inLoop ? 0 : OUT);
        }
        due("node 5 is location 5", largest.earliest(12, 990, 5), 900);
        due("edge 9 is location 15", largest.earliest(15, 990, 2), 991);
    }

    @Holds(promise = 0, sentence = {"A timestamp at an edge is one at the node at which the edge starts, that is, before the move along the edge.", "A pointstamp is a timestamp at a location."})
    static void p00TimestampAtAnEdge() {
        ProgressTracker x = Graphs.largest();
        due("entering: depth 0", x.count(0, 6, 910), OUT);
        due("entering: depth 0", x.count(0, 6, 900), 1000);
        due("entering: depth 1", x.count(0, 7, 991), OUT);
        due("entering: depth 1", x.count(0, 7, 990), 1000);
        due("leaving: depth 2", x.count(0, 10, 999), 1000);
        due("leaving: depth 1", x.count(0, 12, 990), 1000);
        due("leaving: depth 1", x.count(0, 12, 991), OUT);
        due("before the move: 9 stands at a feedback edge", x.count(0, 11, 990), 1000);
        due("before the move: 0 stands there", x.couldResultIn(4, 0, 11, 0), 1);
    }

    @Holds(promise = 0, sentence = {"A way may consist of a alone;", "then no move is made."})
    static void p00WayOfOneLocation() {
        ProgressTracker x = Graphs.loop();
        due("a node", x.earliest(2, 900, 2), 900);
        due("a feedback edge", x.earliest(7, 80, 7), 80);
        due("a feedback edge at 9, whose move is impossible", x.earliest(7, 90, 7), 90);
        due("a leaving edge", x.earliest(8, 990, 8), 990);
        due("could result in itself", x.couldResultIn(7, 90, 7, 90), 1);
        due("could result in what is greater", x.couldResultIn(7, 80, 7, 90), 1);
        due("not in what is less", x.couldResultIn(7, 90, 7, 80), 0);
    }

    @Holds(promise = 0, sentence = {"A way alternates between nodes and edges: from a node one goes to an edge that starts at it, without changing the timestamp;", "from an edge one goes to the node to which it leads, with the move along the edge."})
    static void p00Steps() {
        ProgressTracker x = Graphs.loop();
        due("node to feedback edge", x.earliest(1, 30, 7), 30);
        due("node to feedback edge at 9", x.earliest(1, 90, 7), 90);
        due("feedback edge to its node", x.earliest(7, 30, 1), 40);
        due("feedback edge to its node at 9", x.earliest(7, 90, 1), NONE);
        due("node to leaving edge", x.earliest(1, 30, 8), 30);
        due("leaving edge to its node", x.earliest(8, 30, 2), 0);
        due("not from an edge to another one at its start", x.earliest(8, 30, 7), NONE);
        due("not from a node back to an edge that leads to it", x.earliest(2, 0, 8), NONE);
        due("not from an edge back to its start", x.earliest(6, 0, 0), NONE);
    }

    @Holds(promise = 0, sentence = "Pointstamp (t, a) could result in pointstamp (u, b) if there is a way in the graph from location a to location b, such that the timestamp to which t is changed along this way is at most u.")
    static void p00CouldResultIn() {
        ProgressTracker x = Graphs.loop();
        due("the changed timestamp is u", x.couldResultIn(7, 30, 1, 40), 1);
        due("it is just greater than u", x.couldResultIn(7, 30, 1, 30), 0);
        due("it is less than u", x.couldResultIn(7, 30, 1, 50), 1);
        due("t is greater than u, the changed one is not", x.couldResultIn(1, 90, 2, 0), 1);
        due("the epoch is greater", x.couldResultIn(1, 190, 2, 0), 0);
        due("no way", x.couldResultIn(2, 0, 1, 990), 0);
        due("an impossible move", x.couldResultIn(7, 90, 2, 900), 0);
        // 9 is at most 10, and 10 can go along the inner feedback edge; 9 itself can't.
        ProgressTracker y = Graphs.nodes(2, 2);
        y.addEdge(0, 1, 1);
        due("9 could result in 10", y.couldResultIn(0, 9, 0, 10), 1);
        due("10 could result in 11 behind the edge", y.couldResultIn(0, 10, 1, 11), 1);
        due("9 could not", y.couldResultIn(0, 9, 1, 11), 0);
        due("not even in the greatest", y.couldResultIn(0, 9, 1, 999), 0);
    }

    @Holds(promise = 6, sentence = {"`a`: location of the first pointstamp", "`b`: location of the second pointstamp", "OUT_OF_RANGE if there is no such location"})
    static void p06Locations() {
        int[] missing = {-1, 3, 5, 9, 15, 16, Integer.MIN_VALUE, Integer.MAX_VALUE};
        for (int location : missing) {
            refused("a is " + location, Graphs::loop, x -> x.couldResultIn(location, 0, 0, 0));
            refused("b is " + location, Graphs::loop, x -> x.couldResultIn(0, 0, location, 0));
        }
        refused("both", ProgressTracker::new, x -> x.couldResultIn(0, 0, 0, 0));
        refused("location 16", Graphs::largest, x -> x.couldResultIn(16, 0, 15, 0));
        asked("the least and the greatest", 1, Graphs::largest, x -> x.couldResultIn(0, 0, 15, 0));
        asked("the greatest and the least", 0, Graphs::largest, x -> x.couldResultIn(15, 0, 0, 900));
    }

    @Holds(promise = 6, sentence = {"`t`: timestamp of the first pointstamp", "`u`: timestamp of the second pointstamp", "or a timestamp is not one at its location."})
    static void p06Timestamps() {
        for (int time : Bounds.outside(0, 999)) {
            refused("t is " + time, Graphs::largest, x -> x.couldResultIn(2, time, 2, 0));
            refused("u is " + time, Graphs::largest, x -> x.couldResultIn(2, 0, 2, time));
        }
        refused("t has a counter at depth 0", Graphs::loop, x -> x.couldResultIn(0, 10, 1, 10));
        refused("t has a second counter at depth 1", Graphs::loop, x -> x.couldResultIn(1, 11, 1, 20));
        refused("u has a counter at depth 0", Graphs::loop, x -> x.couldResultIn(1, 10, 2, 10));
        refused("u has a second counter at depth 1", Graphs::loop, x -> x.couldResultIn(1, 10, 8, 11));
        refused("u at an entering edge", Graphs::loop, x -> x.couldResultIn(0, 0, 6, 10));
        refused("t at an entering edge", Graphs::loop, x -> x.couldResultIn(6, 10, 1, 10));
        asked("the greatest at depth 2", 1, Graphs::largest, x -> x.couldResultIn(2, 999, 3, 999));
        asked("the least at depth 2", 1, Graphs::largest, x -> x.couldResultIn(2, 0, 3, 0));
    }

    @Holds(promise = 6, sentence = {"Tells whether a pointstamp could result in another one.", "Returns 1 if it could, 0 if it could not"})
    static void p06Answers() {
        asked("it could", 1, Graphs::twoRequests, x -> x.couldResultIn(1, 30, 1, 40));
        asked("it could not", 0, Graphs::twoRequests, x -> x.couldResultIn(1, 30, 1, 20));
        asked("that the input is closed does not matter", 1, () -> closed(), x -> x.couldResultIn(0, 0, 2, 0));
        asked("counts do not matter", 1, Graphs::loop, x -> x.couldResultIn(1, 30, 1, 40));
    }

    private static ProgressTracker closed() {
        ProgressTracker x = Graphs.loop();
        x.close(0);
        return x;
    }

    @Holds(promise = 7, sentence = {"`a`: location of the pointstamp", "`b`: a location", "OUT_OF_RANGE if there is no such location"})
    static void p07Locations() {
        int[] missing = {-1, 3, 5, 9, 15, 16, Integer.MIN_VALUE, Integer.MAX_VALUE};
        for (int location : missing) {
            refused("a is " + location, Graphs::loop, x -> x.earliest(location, 0, 0));
            refused("b is " + location, Graphs::loop, x -> x.earliest(0, 0, location));
        }
        refused("location 16", Graphs::largest, x -> x.earliest(0, 0, 16));
        asked("the least and the greatest", 900, Graphs::largest, x -> x.earliest(0, 900, 15));
        asked("the greatest and the least", NONE, Graphs::largest, x -> x.earliest(15, 0, 0));
    }

    @Holds(promise = 7, sentence = {"`t`: timestamp of the pointstamp", "or t is not a timestamp at a."})
    static void p07Timestamp() {
        for (int time : Bounds.outside(0, 999)) {
            refused("t is " + time, Graphs::largest, x -> x.earliest(2, time, 2));
        }
        refused("a counter at depth 0", Graphs::loop, x -> x.earliest(0, 910, 1));
        refused("a second counter at depth 1", Graphs::loop, x -> x.earliest(1, 911, 1));
        refused("a counter at an entering edge", Graphs::loop, x -> x.earliest(6, 910, 1));
        refused("wrong at a, though one at b", Graphs::loop, x -> x.earliest(2, 10, 1));
        asked("the greatest at depth 0", 900, Graphs::loop, x -> x.earliest(0, 900, 2));
        asked("the greatest at depth 1", 900, Graphs::loop, x -> x.earliest(1, 990, 2));
        asked("the greatest at depth 2", 990, Graphs::largest, x -> x.earliest(3, 999, 12));
    }

    @Holds(promise = 7, sentence = "NONE if there is no way")
    static void p07NoWay() {
        asked("against the edges", NONE, Graphs::twoRequests, x -> x.earliest(2, 0, 0));
        asked("two nodes without edges", NONE, () -> Graphs.nodes(0, 0), x -> x.earliest(0, 0, 1));
        asked("a node to itself", 0, () -> Graphs.nodes(0, 0), x -> x.earliest(0, 0, 0));
    }

    @Holds(promise = 7, sentence = "or each way has an impossible move")
    static void p07ImpossibleMoves() {
        asked("the only way", NONE, Graphs::loop, x -> x.earliest(7, 90, 2));
        asked("one round is left", 0, Graphs::loop, x -> x.earliest(7, 80, 2));
        ProgressTracker x = Graphs.nodes(1, 1, 1);
        x.addEdge(0, 1, 1);
        x.addEdge(0, 2, 1);
        x.addEdge(2, 1, 0);
        due("both ways are impossible", x.earliest(0, 90, 1), NONE);
        due("both are possible", x.earliest(0, 80, 1), 90);
        ProgressTracker y = Graphs.nodes(1, 1, 1);
        y.addEdge(0, 1, 1);
        y.addEdge(0, 2, 0);
        y.addEdge(2, 1, 0);
        due("one way is possible", y.earliest(0, 90, 1), 90);
        ProgressTracker z = Graphs.nodes(1, 1, 1);
        z.addEdge(0, 1, 1);
        z.addEdge(1, 2, 1);
        due("the second move is impossible", z.earliest(0, 80, 2), NONE);
        due("but not the first", z.earliest(0, 80, 7), 90);
        due("both are possible", z.earliest(0, 70, 2), 90);
    }

    @Holds(promise = 7, sentence = {"Returns the least timestamp to which a pointstamp can be changed on a way to a location.", "Returns the least timestamp, as a number, that t can be changed to along a way from a to b"})
    static void p07Least() {
        ProgressTracker x = Graphs.nines();
        due("straight on", x.earliest(2, 8, 3), 9);
        due("9 can't go straight on: once round the outer loop", x.earliest(2, 9, 3), 11);
        due("9 at the last but one round", x.earliest(2, 89, 3), 91);
        due("9 at the last round", x.earliest(2, 99, 3), NONE);
        due("the epoch stays", x.earliest(2, 989, 3), 991);
        ProgressTracker y = Graphs.largest();
        due("the leaving edge resets what the feedback edge has made", y.earliest(9, 990, 5), 900);
        due("round the outer loop", y.earliest(4, 30, 2), 40);
        due("round both loops", y.earliest(10, 35, 3), 40);
        due("the shorter way out", y.earliest(2, 39, 12), 30);
    }

    @Holds(promise = 7, sentence = "Returns the least timestamp")
    static void p07LeastAfterTheGraphChanged() {
        ProgressTracker x = Graphs.nodes(1, 1, 1);
        x.addEdge(0, 1, 1);
        due("one way", x.earliest(0, 20, 1), 30);
        x.addEdge(0, 2, 0);
        due("no way behind it yet", x.earliest(0, 20, 1), 30);
        x.addEdge(2, 1, 0);
        due("a longer way, but less", x.earliest(0, 20, 1), 20);
        x.undo();
        due("undone", x.earliest(0, 20, 1), 30);
        x.addEdge(2, 1, 1);
        due("another edge in its place", x.earliest(2, 20, 1), 30);
        x.undo();
        x.undo();
        x.undo();
        due("no edge", x.earliest(0, 20, 1), NONE);
    }
}
