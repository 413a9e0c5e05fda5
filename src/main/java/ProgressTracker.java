import java.util.Arrays;

/**
 * Simulates progress tracking in a cyclic dataflow program with two workers.
 *
 * A pointstamp (a timestamp at a location) is held everywhere as one number, its stamp:
 * 1000 * location + timestamp. The order of the stamps is the order of the frontier.
 */
public final class ProgressTracker {
    public static final int OUT_OF_RANGE = -2;
    public static final int NOT_POSSIBLE = -3;
    public static final int FULL = -4;
    public static final int NOTHING_SAVED = -5;
    public static final int NONE = -1;

    private static final int MAX_NODES = 6;
    private static final int MAX_EDGES = 10;
    private static final int MAX_LOCATIONS = MAX_NODES + MAX_EDGES;
    private static final int MAX_DEPTH = 2;
    private static final int MAX_EPOCH = 9;
    private static final int EPOCHS = MAX_EPOCH + 1;
    private static final int MAX_COUNTER = 9;
    private static final int MAX_MESSAGES = 12;
    private static final int MAX_REQUESTS = 12;
    private static final int MAX_SAVED = 3;
    private static final int MAX_RECEIVED = 99;
    private static final int WORKERS = 2;
    private static final int INPUT_WORKER = 0;
    private static final int ERROR_CODES = 4;
    private static final int CLOSED = -2;

    private static final int PLAIN = 0;
    private static final int ENTERING = 1;
    private static final int LEAVING = 2;
    private static final int FEEDBACK = 3;

    private static final int TIMES = 1000;
    private static final int EPOCH_STEP = 100;
    private static final int FIRST_STEP = 10;
    private static final int COUNT_BASE = 1000;
    private static final int START_OF_DIGEST = 2731;

    private final int[] errors = new int[ERROR_CODES];
    private final State[] saved = new State[MAX_SAVED];
    private final Ways ways = new Ways();
    private State now = new State();
    private int savedCount;

    public ProgressTracker() {
        for (int i = 0; i < MAX_SAVED; i++) {
            saved[i] = new State();
        }
    }

    // ---- graph

    public int addNode(int depth, int input) {
        if (depth < 0 || depth > MAX_DEPTH || !isFlag(input) || (input == 1 && depth != 0)) {
            return fail(OUT_OF_RANGE);
        }
        if (now.started) {
            return fail(NOT_POSSIBLE);
        }
        if (now.graph.nodeCount >= MAX_NODES) {
            return fail(FULL);
        }
        save();
        ways.forget();
        return now.appendNode(depth, input == 1);
    }

    public int addEdge(int from, int to, int feedback) {
        Graph graph = now.graph;
        if (!graph.hasNode(from) || !graph.hasNode(to) || !isFlag(feedback)) {
            return fail(OUT_OF_RANGE);
        }
        if (now.started || now.isInput(to) || !graph.allowsEdge(from, to, feedback == 1)) {
            return fail(NOT_POSSIBLE);
        }
        if (graph.edgeCount >= MAX_EDGES) {
            return fail(FULL);
        }
        save();
        ways.forget();
        return graph.appendEdge(from, to, feedback == 1);
    }

    public int kind(int edge) {
        if (!now.graph.hasEdge(edge)) {
            return fail(OUT_OF_RANGE);
        }
        return now.graph.kinds[edge];
    }

    public int move(int edge, int time) {
        if (!now.graph.hasEdge(edge) || !now.graph.hasTime(MAX_NODES + edge, time)) {
            return fail(OUT_OF_RANGE);
        }
        return now.graph.timeAfter(edge, time);
    }

    public int couldResultIn(int a, int t, int b, int u) {
        if (!now.graph.hasTime(a, t) || !now.graph.hasTime(b, u)) {
            return fail(OUT_OF_RANGE);
        }
        return ways.lead(now.graph, stampOf(a, t), stampOf(b, u)) ? 1 : 0;
    }

    public int earliest(int a, int t, int b) {
        if (!now.graph.hasTime(a, t) || !now.graph.hasLocation(b)) {
            return fail(OUT_OF_RANGE);
        }
        int counters = ways.leastCounters(now.graph, stampOf(a, t), b);
        return counters == NONE ? NONE : t - countersOf(t) + counters;
    }

    // ---- inputs

    public int send(int edge, int worker) {
        if (!now.graph.hasEdge(edge) || !isWorker(worker)) {
            return fail(OUT_OF_RANGE);
        }
        int epoch = now.openEpochs[now.graph.starts[edge]];
        if (epoch < 0) {
            return fail(NOT_POSSIBLE);
        }
        if (now.mail.isFull(worker, edge)) {
            return fail(FULL);
        }
        beginEvent();
        int time = EPOCH_STEP * epoch;
        now.putMessage(INPUT_WORKER, edge, worker, time);
        return time;
    }

    public int advance(int node) {
        if (!now.graph.hasNode(node)) {
            return fail(OUT_OF_RANGE);
        }
        int epoch = now.openEpochs[node];
        if (epoch < 0 || epoch >= MAX_EPOCH) {
            return fail(NOT_POSSIBLE);
        }
        beginEvent();
        now.openEpochs[node] = epoch + 1;
        now.update(INPUT_WORKER, stampOf(node, EPOCH_STEP * (epoch + 1)), 1);
        now.update(INPUT_WORKER, stampOf(node, EPOCH_STEP * epoch), -1);
        return epoch + 1;
    }

    public int close(int node) {
        if (!now.graph.hasNode(node)) {
            return fail(OUT_OF_RANGE);
        }
        int epoch = now.openEpochs[node];
        if (epoch < 0) {
            return fail(NOT_POSSIBLE);
        }
        beginEvent();
        now.openEpochs[node] = CLOSED;
        now.update(INPUT_WORKER, stampOf(node, EPOCH_STEP * epoch), -1);
        return epoch;
    }

    // ---- events of workers

    public int process(int worker, int edge, int outputs, int target, int request) {
        Graph graph = now.graph;
        if (!isWorker(worker) || !graph.hasEdge(edge) || !isWorker(target)
                || !isFlag(request) || !graph.hasEdges(outputs)) {
            return fail(OUT_OF_RANGE);
        }
        int node = graph.ends[edge];
        if (now.mail.sizeOf(worker, edge) == 0 || !graph.startAllAt(outputs, node)) {
            return fail(NOT_POSSIBLE);
        }
        if (now.mail.isAnyFull(target, outputs) || (request == 1 && now.wishes.isFull(worker))) {
            return fail(FULL);
        }
        beginEvent();
        int before = now.mail.take(worker, edge);
        int time = graph.timeAfter(edge, before);
        if (time != NONE) {
            now.putMessages(worker, outputs, target, time);
            if (request == 1) {
                now.wishes.put(worker, stampOf(node, time));
                now.update(worker, stampOf(node, time), 1);
            }
            now.recordArrival(node, time);
        }
        now.update(worker, stampOf(MAX_NODES + edge, before), -1);
        return time;
    }

    public int deliver(int worker, int node, int outputs, int target) {
        Graph graph = now.graph;
        if (!isWorker(worker) || !graph.hasNode(node) || !isWorker(target) || !graph.hasEdges(outputs)) {
            return fail(OUT_OF_RANGE);
        }
        int time = leastDeliverable(worker, node);
        if (time == NONE || !graph.startAllAt(outputs, node)) {
            return fail(NOT_POSSIBLE);
        }
        if (now.mail.isAnyFull(target, outputs)) {
            return fail(FULL);
        }
        beginEvent();
        now.wishes.remove(worker, stampOf(node, time));
        now.putMessages(worker, outputs, target, time);
        now.update(worker, stampOf(node, time), -1);
        now.recordDelivery(node, time);
        return time;
    }

    public int receive(int worker, int count) {
        if (!isWorker(worker) || count < 1 || count > MAX_RECEIVED) {
            return fail(OUT_OF_RANGE);
        }
        save();
        return now.queues[worker].moveTo(now.views[worker], count);
    }

    // ---- values

    public int messages(int worker, int edge) {
        if (!isWorker(worker) || !now.graph.hasEdge(edge)) {
            return fail(OUT_OF_RANGE);
        }
        return now.mail.sizeOf(worker, edge);
    }

    public int messageTime(int worker, int edge, int index) {
        if (!isWorker(worker) || !now.graph.hasEdge(edge) || index < 0) {
            return fail(OUT_OF_RANGE);
        }
        return index < now.mail.sizeOf(worker, edge) ? now.mail.timeOf(worker, edge, index) : NONE;
    }

    public int requests(int worker, int node) {
        if (!isWorker(worker) || !now.graph.hasNode(node)) {
            return fail(OUT_OF_RANGE);
        }
        return now.wishes.countAt(worker, node);
    }

    public int deliverable(int worker, int node) {
        if (!isWorker(worker) || !now.graph.hasNode(node)) {
            return fail(OUT_OF_RANGE);
        }
        return leastDeliverable(worker, node);
    }

    public int count(int worker, int location, int time) {
        if (!isWorker(worker) || !now.graph.hasTime(location, time)) {
            return fail(OUT_OF_RANGE);
        }
        return COUNT_BASE + now.views[worker].countOf(stampOf(location, time));
    }

    public int active(int worker) {
        if (!isWorker(worker)) {
            return fail(OUT_OF_RANGE);
        }
        return now.views[worker].countActive();
    }

    public int frontier(int worker, int index) {
        if (!isWorker(worker) || index < -1) {
            return fail(OUT_OF_RANGE);
        }
        View view = now.views[worker];
        int found = 0;
        for (int row = 0; row < view.size; row++) {
            if (isOnFrontier(view, row)) {
                if (found == index) {
                    return view.stamps[row];
                }
                found++;
            }
        }
        return index == -1 ? found : NONE;
    }

    public int pending(int worker) {
        if (!isWorker(worker)) {
            return fail(OUT_OF_RANGE);
        }
        return now.queues[worker].size;
    }

    public int delivered() {
        return now.deliveries;
    }

    public int violations() {
        return now.lateArrivals;
    }

    // ---- state

    public int undo() {
        if (savedCount == 0) {
            return fail(NOTHING_SAVED);
        }
        savedCount--;
        State undone = now;
        now = saved[savedCount];
        saved[savedCount] = undone;
        if (!now.graph.isAsLargeAs(undone.graph)) {
            ways.forget();
        }
        return savedCount;
    }

    public int errorCount(int code) {
        if (code < NOTHING_SAVED || code > OUT_OF_RANGE) {
            return fail(OUT_OF_RANGE);
        }
        return errors[OUT_OF_RANGE - code];
    }

    public long digest() {
        long hash = START_OF_DIGEST;
        for (int i = 0; i < ERROR_CODES; i++) {
            hash = mix(hash, errors[i]);
        }
        hash = mixGraph(hash);
        for (int worker = 0; worker < WORKERS; worker++) {
            hash = mixMail(hash, worker);
            hash = mixNotifications(hash, worker);
            hash = mixView(hash, worker);
        }
        hash = mix(hash, now.deliveries);
        hash = mix(hash, now.lateArrivals);
        return mix(hash, savedCount);
    }

    private long mixGraph(long start) {
        Graph graph = now.graph;
        long hash = mix(start, graph.nodeCount);
        for (int node = 0; node < graph.nodeCount; node++) {
            hash = mix(hash, graph.depths[node]);
            hash = mix(hash, now.openEpochs[node]);
        }
        hash = mix(hash, graph.edgeCount);
        for (int edge = 0; edge < graph.edgeCount; edge++) {
            hash = mix(hash, graph.starts[edge]);
            hash = mix(hash, graph.ends[edge]);
            hash = mix(hash, graph.kinds[edge]);
        }
        return hash;
    }

    private long mixMail(long start, int worker) {
        long hash = start;
        for (int edge = 0; edge < now.graph.edgeCount; edge++) {
            int size = now.mail.sizeOf(worker, edge);
            hash = mix(hash, size);
            for (int index = 0; index < size; index++) {
                hash = mix(hash, now.mail.timeOf(worker, edge, index));
            }
        }
        return hash;
    }

    private long mixNotifications(long start, int worker) {
        long hash = start;
        for (int node = 0; node < now.graph.nodeCount; node++) {
            hash = mix(hash, now.wishes.countAt(worker, node));
            hash = mix(hash, leastDeliverable(worker, node));
        }
        return hash;
    }

    private long mixView(long start, int worker) {
        View view = now.views[worker];
        long hash = mix(start, view.countActive());
        int length = markFrontier(view);
        hash = mix(hash, length);
        for (int row = 0; row < view.size; row++) {
            if (view.marks[row] == 1) {
                hash = mix(hash, view.stamps[row]);
            }
        }
        return mix(hash, now.queues[worker].size);
    }

    private static long mix(long hash, int value) {
        return 31 * hash + value;
    }

    // The digest wants the frontier's length before its stamps: the marks spare it a second search.
    private int markFrontier(View view) {
        int found = 0;
        for (int row = 0; row < view.size; row++) {
            view.marks[row] = isOnFrontier(view, row) ? 1 : 0;
            found += view.marks[row];
        }
        return found;
    }

    private boolean isOnFrontier(View view, int row) {
        if (view.counts[row] <= 0) {
            return false;
        }
        int stamp = view.stamps[row];
        for (int other = 0; other < view.size; other++) {
            if (other != row && view.counts[other] > 0 && ways.lead(now.graph, view.stamps[other], stamp)) {
                return false;
            }
        }
        return true;
    }

    private int leastDeliverable(int worker, int node) {
        Wishes wishes = now.wishes;
        View view = now.views[worker];
        int least = NONE;
        for (int index = 0; index < wishes.sizeOf(worker); index++) {
            int stamp = wishes.stampAt(worker, index);
            int time = stamp % TIMES;
            if (stamp / TIMES == node && (least == NONE || time < least)) {
                int row = view.rowOf(stamp);
                if (row != NONE && isOnFrontier(view, row)) {
                    least = time;
                }
            }
        }
        return least;
    }

    private int fail(int code) {
        errors[OUT_OF_RANGE - code]++;
        return code;
    }

    private void beginEvent() {
        save();
        now.started = true;
    }

    private void save() {
        if (savedCount == MAX_SAVED) {
            dropOldest();
        }
        saved[savedCount].copyFrom(now);
        savedCount++;
    }

    // The dropped state's object goes to the end, where its rows are used for the next one.
    private void dropOldest() {
        State oldest = saved[0];
        for (int i = 1; i < MAX_SAVED; i++) {
            saved[i - 1] = saved[i];
        }
        saved[MAX_SAVED - 1] = oldest;
        savedCount--;
    }

    private static boolean isWorker(int worker) {
        return worker >= 0 && worker < WORKERS;
    }

    private static boolean isFlag(int value) {
        return value == 0 || value == 1;
    }

    private static int stampOf(int location, int time) {
        return TIMES * location + time;
    }

    private static int countersOf(int time) {
        return time % EPOCH_STEP;
    }

    /** Nodes and edges, and how an edge changes a timestamp. */
    private static final class Graph {
        int nodeCount;
        int edgeCount;
        final int[] depths = new int[MAX_NODES];
        // One row is spare: a new edge is tried there, also when the graph is full.
        final int[] starts = new int[MAX_EDGES + 1];
        final int[] ends = new int[MAX_EDGES + 1];
        final int[] kinds = new int[MAX_EDGES + 1];

        boolean hasNode(int node) {
            return node >= 0 && node < nodeCount;
        }

        boolean hasEdge(int edge) {
            return edge >= 0 && edge < edgeCount;
        }

        boolean hasEdges(int edgeSet) {
            return edgeSet >>> edgeCount == 0;
        }

        boolean startAllAt(int edgeSet, int node) {
            for (int edge = 0; edge < edgeCount; edge++) {
                if (contains(edgeSet, edge) && starts[edge] != node) {
                    return false;
                }
            }
            return true;
        }

        boolean hasLocation(int location) {
            return hasNode(location) || (location >= MAX_NODES && hasEdge(location - MAX_NODES));
        }

        boolean hasTime(int location, int time) {
            if (!hasLocation(location) || time < 0 || time >= TIMES) {
                return false;
            }
            int depth = depths[location < MAX_NODES ? location : starts[location - MAX_NODES]];
            if (depth == 0) {
                return time % EPOCH_STEP == 0;
            }
            return depth == MAX_DEPTH || time % FIRST_STEP == 0;
        }

        /** The timestamp after the move along an edge, NONE if the move is impossible. */
        int timeAfter(int edge, int time) {
            boolean inner = depths[starts[edge]] == MAX_DEPTH;
            int step = inner ? 1 : FIRST_STEP;
            int counter = time / step % 10;
            if (kinds[edge] == LEAVING) {
                return time - counter * step;
            }
            if (kinds[edge] == FEEDBACK) {
                return counter == MAX_COUNTER ? NONE : time + step;
            }
            return time;
        }

        int appendNode(int depth) {
            depths[nodeCount] = depth;
            nodeCount++;
            return nodeCount - 1;
        }

        boolean allowsEdge(int from, int to, boolean feedback) {
            int difference = depths[to] - depths[from];
            if (difference > 1 || difference < -1) {
                return false;
            }
            if (feedback && (difference != 0 || depths[from] == 0)) {
                return false;
            }
            putEdge(from, to, feedback);
            for (int node = 0; node < nodeCount; node++) {
                if (returnsWithoutFeedback(node)) {
                    return false;
                }
            }
            return true;
        }

        int appendEdge(int from, int to, boolean feedback) {
            putEdge(from, to, feedback);
            edgeCount++;
            return edgeCount - 1;
        }

        private void putEdge(int from, int to, boolean feedback) {
            starts[edgeCount] = from;
            ends[edgeCount] = to;
            kinds[edgeCount] = kindBetween(depths[from], depths[to], feedback);
        }

        private static int kindBetween(int depthFrom, int depthTo, boolean feedback) {
            if (depthFrom != depthTo) {
                return depthFrom < depthTo ? ENTERING : LEAVING;
            }
            return feedback ? FEEDBACK : PLAIN;
        }

        /**
         * Whether a cycle on which no node is less deep than the given one leads back to it without
         * a feedback edge of its depth: just then a cycle with this least depth breaks the rule.
         */
        private boolean returnsWithoutFeedback(int node) {
            int reached = 0;
            for (int round = 0; round < nodeCount; round++) {
                for (int edge = 0; edge <= edgeCount; edge++) {
                    boolean leaves = starts[edge] == node || contains(reached, starts[edge]);
                    if (leaves && staysWithoutFeedback(edge, depths[node])) {
                        reached |= 1 << ends[edge];
                    }
                }
            }
            return contains(reached, node);
        }

        private boolean staysWithoutFeedback(int edge, int depth) {
            int depthTo = depths[ends[edge]];
            return depthTo >= depth && !(kinds[edge] == FEEDBACK && depthTo == depth);
        }

        boolean isAsLargeAs(Graph other) {
            return nodeCount == other.nodeCount && edgeCount == other.edgeCount;
        }

        void copyFrom(Graph other) {
            nodeCount = other.nodeCount;
            edgeCount = other.edgeCount;
            System.arraycopy(other.depths, 0, depths, 0, MAX_NODES);
            System.arraycopy(other.starts, 0, starts, 0, MAX_EDGES);
            System.arraycopy(other.ends, 0, ends, 0, MAX_EDGES);
            System.arraycopy(other.kinds, 0, kinds, 0, MAX_EDGES);
        }

        static boolean contains(int set, int element) {
            return (set >> element & 1) == 1;
        }
    }

    /**
     * What the ways through a graph do to the loop counters; no way changes an epoch.
     *
     * A search goes through all pairs of a location and counters: the least counters at a location
     * alone would not do, since 09 cannot move along an inner feedback edge where the greater 10 can.
     * What a search found is kept until the graph changes.
     */
    private static final class Ways {
        private static final int COUNTERS = 100;
        private static final int PLACES = MAX_LOCATIONS * COUNTERS;

        // For each place to start from, the least counters at each location, NONE if no way leads there.
        private int[] least = new int[0];
        private int[] foundIn = new int[0];
        private int[] seenBy = new int[0];
        private int[] places = new int[0];
        private int placeCount;
        private int generation = 1;
        private int searches;

        void forget() {
            generation++;
        }

        /** Whether the pointstamp of the first stamp could result in that of the second one. */
        boolean lead(Graph graph, int stampFrom, int stampTo) {
            int timeTo = stampTo % TIMES;
            if (stampFrom % TIMES / EPOCH_STEP > timeTo / EPOCH_STEP) {
                return false;
            }
            int counters = leastCounters(graph, stampFrom, stampTo / TIMES);
            return counters != NONE && counters <= countersOf(timeTo);
        }

        int leastCounters(Graph graph, int stampFrom, int locationTo) {
            int start = stampFrom / TIMES * COUNTERS + countersOf(stampFrom);
            if (least.length == 0) {
                makeRows();
            }
            if (foundIn[start] != generation) {
                search(graph, start);
                foundIn[start] = generation;
            }
            return least[start * MAX_LOCATIONS + locationTo];
        }

        // Not in the constructor: an object that is never asked for ways needs none of these rows.
        private void makeRows() {
            least = new int[PLACES * MAX_LOCATIONS];
            foundIn = new int[PLACES];
            seenBy = new int[PLACES];
            places = new int[PLACES];
        }

        private void search(Graph graph, int start) {
            int row = start * MAX_LOCATIONS;
            Arrays.fill(least, row, row + MAX_LOCATIONS, NONE);
            searches++;
            placeCount = 0;
            addPlace(start / COUNTERS, start % COUNTERS);
            for (int i = 0; i < PLACES && i < placeCount; i++) {
                int location = places[i] / COUNTERS;
                int counters = places[i] % COUNTERS;
                if (least[row + location] == NONE || counters < least[row + location]) {
                    least[row + location] = counters;
                }
                for (int edge = 0; edge < graph.edgeCount; edge++) {
                    if (graph.starts[edge] == location) {
                        addPlace(MAX_NODES + edge, counters);
                    }
                }
                int after = location < MAX_NODES ? NONE : graph.timeAfter(location - MAX_NODES, counters);
                if (after != NONE) {
                    addPlace(graph.ends[location - MAX_NODES], after);
                }
            }
        }

        private void addPlace(int location, int counters) {
            int place = location * COUNTERS + counters;
            if (seenBy[place] != searches) {
                seenBy[place] = searches;
                places[placeCount] = place;
                placeCount++;
            }
        }
    }

    /** The counts in the view of a worker: a row for each stamp whose count is not 0, in ascending order. */
    private static final class View {
        private static final int FIRST_LENGTH = 16;

        int size;
        int[] stamps = new int[FIRST_LENGTH];
        int[] counts = new int[FIRST_LENGTH];
        int[] marks = new int[FIRST_LENGTH];

        int countOf(int stamp) {
            int row = rowOf(stamp);
            return row == NONE ? 0 : counts[row];
        }

        int rowOf(int stamp) {
            int row = firstRowFrom(stamp);
            return row < size && stamps[row] == stamp ? row : NONE;
        }

        int countActive() {
            int found = 0;
            for (int row = 0; row < size; row++) {
                if (counts[row] > 0) {
                    found++;
                }
            }
            return found;
        }

        void change(int stamp, int by) {
            int row = firstRowFrom(stamp);
            if (row == size || stamps[row] != stamp) {
                insert(row, stamp, by);
            } else if (counts[row] + by == 0) {
                remove(row);
            } else {
                counts[row] += by;
            }
        }

        void copyFrom(View other) {
            makeRoom(other.size);
            size = other.size;
            System.arraycopy(other.stamps, 0, stamps, 0, size);
            System.arraycopy(other.counts, 0, counts, 0, size);
        }

        private int firstRowFrom(int stamp) {
            for (int row = 0; row < size; row++) {
                if (stamps[row] >= stamp) {
                    return row;
                }
            }
            return size;
        }

        private void insert(int row, int stamp, int value) {
            makeRoom(size + 1);
            System.arraycopy(stamps, row, stamps, row + 1, size - row);
            System.arraycopy(counts, row, counts, row + 1, size - row);
            stamps[row] = stamp;
            counts[row] = value;
            size++;
        }

        private void remove(int row) {
            size--;
            System.arraycopy(stamps, row + 1, stamps, row, size - row);
            System.arraycopy(counts, row + 1, counts, row, size - row);
        }

        private void makeRoom(int needed) {
            if (needed > stamps.length) {
                int length = 2 * needed;
                stamps = Arrays.copyOf(stamps, length);
                counts = Arrays.copyOf(counts, length);
                marks = new int[length];
            }
        }
    }

    /**
     * The updates that a worker has not received yet, the oldest first. An update is one number:
     * the stamp for +1, its complement (which is negative) for -1.
     */
    private static final class UpdateQueue {
        private static final int FIRST_LENGTH = 32;
        // 512 calls with at most 12 updates each: only calls about which nothing is promised can need more.
        private static final int MAX_LENGTH = 512 * 12;

        int first;
        int size;
        int[] updates = new int[FIRST_LENGTH];

        void add(int stamp, int change) {
            if (size >= MAX_LENGTH) {
                return;
            }
            if (first + size == updates.length) {
                makeRoomAtEnd();
            }
            updates[first + size] = change > 0 ? stamp : ~stamp;
            size++;
        }

        int moveTo(View view, int limit) {
            int moved = Math.min(limit, size);
            for (int i = 0; i < moved; i++) {
                int update = updates[first + i];
                if (update >= 0) {
                    view.change(update, 1);
                } else {
                    view.change(~update, -1);
                }
            }
            first += moved;
            size -= moved;
            return moved;
        }

        void copyFrom(UpdateQueue other) {
            if (other.size > updates.length) {
                updates = new int[other.updates.length];
            }
            first = 0;
            size = other.size;
            System.arraycopy(other.updates, other.first, updates, 0, size);
        }

        private void makeRoomAtEnd() {
            int[] target = 2 * size > updates.length ? new int[2 * updates.length] : updates;
            System.arraycopy(updates, first, target, 0, size);
            updates = target;
            first = 0;
        }
    }

    /** The timestamps of the messages of each worker on each edge, the oldest first. */
    private static final class Mail {
        private final int[] sizes = new int[WORKERS * MAX_EDGES];
        private final int[] times = new int[WORKERS * MAX_EDGES * MAX_MESSAGES];

        int sizeOf(int worker, int edge) {
            return sizes[worker * MAX_EDGES + edge];
        }

        int timeOf(int worker, int edge, int index) {
            return times[(worker * MAX_EDGES + edge) * MAX_MESSAGES + index];
        }

        boolean isFull(int worker, int edge) {
            return sizeOf(worker, edge) >= MAX_MESSAGES;
        }

        boolean isAnyFull(int worker, int edgeSet) {
            for (int edge = 0; edge < MAX_EDGES; edge++) {
                if (Graph.contains(edgeSet, edge) && isFull(worker, edge)) {
                    return true;
                }
            }
            return false;
        }

        void put(int worker, int edge, int time) {
            int row = worker * MAX_EDGES + edge;
            times[row * MAX_MESSAGES + sizes[row]] = time;
            sizes[row]++;
        }

        int take(int worker, int edge) {
            int row = worker * MAX_EDGES + edge;
            int oldest = row * MAX_MESSAGES;
            int time = times[oldest];
            sizes[row]--;
            System.arraycopy(times, oldest + 1, times, oldest, sizes[row]);
            return time;
        }

        void copyFrom(Mail other) {
            System.arraycopy(other.sizes, 0, sizes, 0, sizes.length);
            System.arraycopy(other.times, 0, times, 0, times.length);
        }
    }

    /** The notifications that each worker has requested, as stamps; equal ones stand there each. */
    private static final class Wishes {
        private final int[] sizes = new int[WORKERS];
        private final int[] stamps = new int[WORKERS * MAX_REQUESTS];

        int sizeOf(int worker) {
            return sizes[worker];
        }

        int stampAt(int worker, int index) {
            return stamps[worker * MAX_REQUESTS + index];
        }

        boolean isFull(int worker) {
            return sizes[worker] >= MAX_REQUESTS;
        }

        int countAt(int worker, int node) {
            int found = 0;
            for (int index = 0; index < sizes[worker]; index++) {
                if (stampAt(worker, index) / TIMES == node) {
                    found++;
                }
            }
            return found;
        }

        void put(int worker, int stamp) {
            stamps[worker * MAX_REQUESTS + sizes[worker]] = stamp;
            sizes[worker]++;
        }

        void remove(int worker, int stamp) {
            for (int index = 0; index < sizes[worker]; index++) {
                if (stampAt(worker, index) == stamp) {
                    sizes[worker]--;
                    // Their order is never asked for, so the last one may fill the gap.
                    stamps[worker * MAX_REQUESTS + index] = stampAt(worker, sizes[worker]);
                    return;
                }
            }
        }

        void copyFrom(Wishes other) {
            System.arraycopy(other.sizes, 0, sizes, 0, sizes.length);
            System.arraycopy(other.stamps, 0, stamps, 0, stamps.length);
        }
    }

    /** All that undo restores. */
    private static final class State {
        boolean started;
        int deliveries;
        int lateArrivals;
        final Graph graph = new Graph();
        final Mail mail = new Mail();
        final Wishes wishes = new Wishes();
        final View[] views = new View[WORKERS];
        final UpdateQueue[] queues = new UpdateQueue[WORKERS];
        // For each node NONE if it is no input, CLOSED if it is a closed one.
        final int[] openEpochs = new int[MAX_NODES];
        // For each node and epoch the greatest counters of a delivered notification, or NONE.
        private final int[] deliveredCounters = new int[MAX_NODES * EPOCHS];

        State() {
            for (int worker = 0; worker < WORKERS; worker++) {
                views[worker] = new View();
                queues[worker] = new UpdateQueue();
            }
            Arrays.fill(deliveredCounters, NONE);
        }

        boolean isInput(int node) {
            return openEpochs[node] != NONE;
        }

        int appendNode(int depth, boolean input) {
            int node = graph.appendNode(depth);
            openEpochs[node] = input ? 0 : NONE;
            if (input) {
                // All workers know of it from the beginning, so it goes through no queue.
                for (int worker = 0; worker < WORKERS; worker++) {
                    views[worker].change(stampOf(node, 0), 1);
                }
            }
            return node;
        }

        void putMessages(int worker, int edgeSet, int target, int time) {
            for (int edge = 0; edge < graph.edgeCount; edge++) {
                if (Graph.contains(edgeSet, edge)) {
                    putMessage(worker, edge, target, time);
                }
            }
        }

        void putMessage(int worker, int edge, int target, int time) {
            mail.put(target, edge, time);
            update(worker, stampOf(MAX_NODES + edge, time), 1);
        }

        void update(int worker, int stamp, int change) {
            views[worker].change(stamp, change);
            queues[1 - worker].add(stamp, change);
        }

        void recordDelivery(int node, int time) {
            int row = node * EPOCHS + time / EPOCH_STEP;
            deliveredCounters[row] = Math.max(deliveredCounters[row], countersOf(time));
            deliveries++;
        }

        void recordArrival(int node, int time) {
            for (int epoch = time / EPOCH_STEP; epoch < EPOCHS; epoch++) {
                if (deliveredCounters[node * EPOCHS + epoch] >= countersOf(time)) {
                    lateArrivals++;
                    return;
                }
            }
        }

        void copyFrom(State other) {
            started = other.started;
            deliveries = other.deliveries;
            lateArrivals = other.lateArrivals;
            graph.copyFrom(other.graph);
            mail.copyFrom(other.mail);
            wishes.copyFrom(other.wishes);
            for (int worker = 0; worker < WORKERS; worker++) {
                views[worker].copyFrom(other.views[worker]);
                queues[worker].copyFrom(other.queues[worker]);
            }
            System.arraycopy(other.openEpochs, 0, openEpochs, 0, MAX_NODES);
            System.arraycopy(other.deliveredCounters, 0, deliveredCounters, 0, deliveredCounters.length);
        }
    }
}
