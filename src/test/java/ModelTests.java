import java.util.Arrays;
import java.util.Random;

/**
 * Long runs of calls, made from fixed seeds, on a ProgressTracker and on the Model: every answer
 * has to be the same, and now and then the digests too.
 */
public final class ModelTests {
    private static final int RUNS = 900;
    private static final int CALLS = 512;
    private static final String[] NAMES = {
        "addNode", "addEdge", "kind", "move", "couldResultIn", "earliest", "send", "advance", "close",
        "process", "deliver", "receive", "messages", "messageTime", "requests", "deliverable", "count",
        "active", "frontier", "pending", "delivered", "violations", "undo", "errorCount", "digest"};

    private int wrong;
    private long delivered;
    private long drops;
    private long fulls;
    private long feedbackRefusals;

    public static void main(String[] args) {
        ModelTests tests = new ModelTests();
        for (int run = 0; run < RUNS && tests.wrong < 3; run++) {
            tests.run(run);
        }
        tests.requireSome("deliveries", tests.delivered);
        tests.requireSome("dropped messages", tests.drops);
        tests.requireSome("full edges or requests", tests.fulls);
        tests.requireSome("refused edges", tests.feedbackRefusals);
        System.out.println("ModelTests: " + tests.wrong + " wrong; " + tests.delivered + " deliveries, "
                + tests.drops + " drops, " + tests.fulls + " times full");
        if (tests.wrong != 0) {
            System.exit(1);
        }
    }

    // A run that never comes to the rare events would prove nothing about them.
    private void requireSome(String what, long number) {
        if (number == 0) {
            wrong++;
            System.out.println("ModelTests: the runs made no " + what);
        }
    }

    private void run(int seed) {
        ProgressTracker tracker = new ProgressTracker();
        Model model = new Model();
        Plan plan = new Plan(new Random(seed), model);
        StringBuilder story = new StringBuilder();
        for (int call = 0; call < CALLS; call++) {
            plan.look();
            int[] c = plan.next(call);
            long got = onTracker(tracker, c);
            long want = onModel(model, c);
            story.append(NAMES[c[0]]).append(Arrays.toString(Arrays.copyOfRange(c, 1, 6))).append(" = ")
                    .append(want).append('\n');
            if (got != want) {
                wrong++;
                System.out.println("seed " + seed + ", call " + call + ": got " + got + " at the end of\n" + story);
                return;
            }
            plan.learn(c, got);
        }
        delivered += model.delivered();
        drops += model.drops;
        fulls += model.errorCount(-4);
        feedbackRefusals += model.errorCount(-3);
    }

    /** Chooses calls: mostly sensible ones, so that the runs go deep, and some with wrong arguments. */
    private static final class Plan {
        // The nested loops of the first runs: {from, to, feedback} behind the nodes' depths.
        private static final int[] LOOP_DEPTHS = {0, 1, 2, 2, 1, 0};
        private static final int[][] LOOP_EDGES = {
            {0, 1, 0}, {1, 2, 0}, {2, 3, 0}, {3, 2, 1}, {3, 4, 0}, {4, 1, 1}, {4, 5, 0}, {2, 4, 0}, {1, 1, 1}, {3, 3, 1}};

        private final Random random;
        private final Model model;
        private final boolean nested;
        private final int building;
        private final int wildness;
        private final int laziness;
        private final int greed;
        private final int[] depths = new int[6];
        private final int[] from = new int[10];
        private final int[] to = new int[10];
        private int nodes;
        private int edges;

        Plan(Random random, Model model) {
            this.random = random;
            this.model = model;
            nested = random.nextInt(3) == 0;
            building = 16 + random.nextInt(50);
            wildness = 1 + random.nextInt(30);
            laziness = 1 + random.nextInt(20);
            greed = random.nextInt(4);
        }

        int[] next(int call) {
            int[] c = call < building ? build(call) : work();
            if (random.nextInt(100) < wildness / 3) {
                c[1 + random.nextInt(5)] = odd();
            }
            return c;
        }

        // An undo may have made the graph smaller.
        void look() {
            nodes = model.nodeCount();
            edges = model.edgeCount();
        }

        void learn(int[] c, long answer) {
            if (c[0] == 0 && answer >= 0) {
                depths[(int) answer] = c[1];
            }
            if (c[0] == 1 && answer >= 0) {
                from[(int) answer] = c[1];
                to[(int) answer] = c[2];
            }
        }

        private int odd() {
            int[] odd = {-1, -2, -6, 2, 3, 6, 10, 16, 99, 100, 999, 1000, Integer.MAX_VALUE, Integer.MIN_VALUE, 1 << 20};
            return odd[random.nextInt(odd.length)];
        }

        private int bit() {
            return random.nextInt(2);
        }

        private int node() {
            return random.nextInt(Math.max(1, nodes));
        }

        private int edge() {
            return random.nextInt(Math.max(1, edges));
        }

        private int location() {
            return bit() == 0 ? node() : 6 + edge();
        }

        private int timeAt(int location) {
            if (random.nextInt(30) == 0) {
                return random.nextInt(1000);
            }
            int depth = location < 6 ? depths[Math.max(0, location)] : depths[from[Math.min(9, location - 6)]];
            int time = 100 * random.nextInt(bit() == 0 ? 2 : 10);
            int limit = bit() == 0 ? 3 : 10;
            time += depth > 0 ? 10 * random.nextInt(limit) : 0;
            time += depth > 1 ? random.nextInt(limit) : 0;
            return time;
        }

        private int[] build(int call) {
            if (nested && call < 16) {
                return buildNested(call);
            }
            if (call == 0) {
                return new int[] {0, 0, 1, 0, 0, 0};
            }
            if (nodes < 6 && random.nextInt(3) == 0) {
                int depth = random.nextInt(3);
                return new int[] {0, depth, depth == 0 ? bit() : 0, 0, 0, 0};
            }
            if (random.nextInt(12) == 0) {
                return query();
            }
            return new int[] {1, node(), node(), random.nextInt(3) == 0 ? 1 : 0, 0, 0};
        }

        private int[] buildNested(int call) {
            if (call < 6) {
                return new int[] {0, LOOP_DEPTHS[call], call == 0 ? 1 : 0, 0, 0, 0};
            }
            int[] edge = LOOP_EDGES[call - 6];
            return new int[] {1, edge[0], edge[1], edge[2], 0, 0};
        }

        private int outputsOf(int node) {
            int outputs = 0;
            for (int k = 0; k < edges; k++) {
                if (from[k] == node && random.nextInt(4) <= greed) {
                    outputs |= 1 << k;
                }
            }
            return random.nextInt(40) == 0 ? random.nextInt(1 << 11) : outputs;
        }

        private int[] work() {
            int choice = random.nextInt(100);
            if (choice < 12) {
                return new int[] {6, edge(), bit(), 0, 0, 0};
            }
            if (choice < 14) {
                return new int[] {7, node(), 0, 0, 0, 0};
            }
            if (choice < 15) {
                return new int[] {random.nextInt(3) == 0 ? 8 : 7, node(), 0, 0, 0, 0};
            }
            if (choice < 50) {
                return process();
            }
            if (choice < 65) {
                return deliver();
            }
            if (choice < 65 + laziness) {
                return new int[] {11, bit(), 1 + random.nextInt(bit() == 0 ? 5 : 99), 0, 0, 0};
            }
            if (choice < 88) {
                return query();
            }
            if (choice < 91) {
                return new int[] {22, 0, 0, 0, 0, 0};
            }
            return choice < 93 ? build(1) : new int[] {24, 0, 0, 0, 0, 0};
        }

        // Some tries to find a message: else most of the calls would only be refused.
        private int[] process() {
            int worker = bit();
            int edge = edge();
            for (int i = 0; i < 20 && edge < edges && model.messages(worker, edge) == 0; i++) {
                worker = bit();
                edge = edge();
            }
            return new int[] {9, worker, edge, outputsOf(to[edge]), bit(), random.nextInt(4) == 0 ? 1 : 0};
        }

        private int[] deliver() {
            int worker = bit();
            int node = node();
            for (int i = 0; i < 8 && node < nodes && model.requests(worker, node) == 0; i++) {
                worker = bit();
                node = node();
            }
            return new int[] {10, worker, node, outputsOf(node), bit(), 0};
        }

        private int[] query() {
            int a = location();
            int b = location();
            int[][] queries = {
                {2, edge()}, {3, edge(), timeAt(6 + edge())}, {4, a, timeAt(a), b, timeAt(b)}, {4, a, timeAt(a), a, timeAt(a)},
                {5, a, timeAt(a), b}, {5, a, timeAt(a), a}, {12, bit(), edge()}, {13, bit(), edge(), random.nextInt(13)},
                {14, bit(), node()}, {15, bit(), node()}, {16, bit(), a, timeAt(a)}, {17, bit()},
                {18, bit(), random.nextInt(6) - 1}, {19, bit()}, {20}, {21}, {23, -1 - random.nextInt(6)}};
            return Arrays.copyOf(queries[random.nextInt(queries.length)], 6);
        }
    }

    private static long onTracker(ProgressTracker x, int[] c) {
        return switch (c[0]) {
            case 0 -> x.addNode(c[1], c[2]);
            case 1 -> x.addEdge(c[1], c[2], c[3]);
            case 2 -> x.kind(c[1]);
            case 3 -> x.move(c[1], c[2]);
            case 4 -> x.couldResultIn(c[1], c[2], c[3], c[4]);
            case 5 -> x.earliest(c[1], c[2], c[3]);
            case 6 -> x.send(c[1], c[2]);
            case 7 -> x.advance(c[1]);
            case 8 -> x.close(c[1]);
            case 9 -> x.process(c[1], c[2], c[3], c[4], c[5]);
            case 10 -> x.deliver(c[1], c[2], c[3], c[4]);
            case 11 -> x.receive(c[1], c[2]);
            case 12 -> x.messages(c[1], c[2]);
            case 13 -> x.messageTime(c[1], c[2], c[3]);
            case 14 -> x.requests(c[1], c[2]);
            case 15 -> x.deliverable(c[1], c[2]);
            case 16 -> x.count(c[1], c[2], c[3]);
            case 17 -> x.active(c[1]);
            case 18 -> x.frontier(c[1], c[2]);
            case 19 -> x.pending(c[1]);
            case 20 -> x.delivered();
            case 21 -> x.violations();
            case 22 -> x.undo();
            case 23 -> x.errorCount(c[1]);
            default -> x.digest();
        };
    }

    private static long onModel(Model x, int[] c) {
        return switch (c[0]) {
            case 0 -> x.addNode(c[1], c[2]);
            case 1 -> x.addEdge(c[1], c[2], c[3]);
            case 2 -> x.kind(c[1]);
            case 3 -> x.move(c[1], c[2]);
            case 4 -> x.couldResultIn(c[1], c[2], c[3], c[4]);
            case 5 -> x.earliest(c[1], c[2], c[3]);
            case 6 -> x.send(c[1], c[2]);
            case 7 -> x.advance(c[1]);
            case 8 -> x.close(c[1]);
            case 9 -> x.process(c[1], c[2], c[3], c[4], c[5]);
            case 10 -> x.deliver(c[1], c[2], c[3], c[4]);
            case 11 -> x.receive(c[1], c[2]);
            case 12 -> x.messages(c[1], c[2]);
            case 13 -> x.messageTime(c[1], c[2], c[3]);
            case 14 -> x.requests(c[1], c[2]);
            case 15 -> x.deliverable(c[1], c[2]);
            case 16 -> x.count(c[1], c[2], c[3]);
            case 17 -> x.active(c[1]);
            case 18 -> x.frontier(c[1], c[2]);
            case 19 -> x.pending(c[1]);
            case 20 -> x.delivered();
            case 21 -> x.violations();
            case 22 -> x.undo();
            case 23 -> x.errorCount(c[1]);
            default -> x.digest();
        };
    }
}
