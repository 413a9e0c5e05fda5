import java.util.ArrayList;
import java.util.HashSet;
import java.util.List;
import java.util.Map;
import java.util.Set;
import java.util.TreeMap;
import java.util.TreeSet;

/**
 * The document once more, as naively as it can be said: nothing is kept that can be worked out again,
 * each saved state is a whole copy. ModelTests compares the answers of ProgressTracker with it.
 */
final class Model {
    private static final int MESSAGES_PER_EDGE = 12;

    private static final class Node {
        final int depth;
        final boolean input;
        int epoch;
        boolean closed;

        Node(int depth, boolean input) {
            this.depth = depth;
            this.input = input;
        }

        Node copy() {
            Node copy = new Node(depth, input);
            copy.epoch = epoch;
            copy.closed = closed;
            return copy;
        }
    }

    private record Edge(int from, int to, int kind) { }

    private record Update(int location, int time, int change) { }

    private record Notification(int node, int time) { }

    private static final class World {
        final List<Node> nodes = new ArrayList<>();
        final List<Edge> edges = new ArrayList<>();
        final List<List<List<Integer>>> messages = List.of(new ArrayList<>(), new ArrayList<>());
        final List<List<Notification>> requests = List.of(new ArrayList<>(), new ArrayList<>());
        final List<Map<Integer, Integer>> views = List.of(new TreeMap<>(), new TreeMap<>());
        final List<List<Update>> queues = List.of(new ArrayList<>(), new ArrayList<>());
        final List<Notification> delivered = new ArrayList<>();
        int violations;
        boolean event;

        World copy() {
            World copy = new World();
            for (Node node : nodes) {
                copy.nodes.add(node.copy());
            }
            copy.edges.addAll(edges);
            for (int w = 0; w < 2; w++) {
                for (List<Integer> list : messages.get(w)) {
                    copy.messages.get(w).add(new ArrayList<>(list));
                }
                copy.requests.get(w).addAll(requests.get(w));
                copy.views.get(w).putAll(views.get(w));
                copy.queues.get(w).addAll(queues.get(w));
            }
            copy.delivered.addAll(delivered);
            copy.violations = violations;
            copy.event = event;
            return copy;
        }
    }

    private World world = new World();
    private final List<World> saved = new ArrayList<>();
    private final int[] errors = new int[4];
    // Tests look at it to see that a run went where it was meant to go.
    int drops;

    int nodeCount() {
        return world.nodes.size();
    }

    int edgeCount() {
        return world.edges.size();
    }

    private int error(int code) {
        errors[-2 - code]++;
        return code;
    }

    private void save() {
        saved.add(world.copy());
        if (saved.size() > 3) {
            saved.remove(0);
        }
    }

    private boolean noNode(int node) {
        return node < 0 || node >= world.nodes.size();
    }

    private boolean noEdge(int edge) {
        return edge < 0 || edge >= world.edges.size();
    }

    private static boolean noBit(int value) {
        return value != 0 && value != 1;
    }

    private boolean noLocation(int location) {
        return location < 6 ? noNode(location) : noEdge(location - 6);
    }

    private int depthOf(int location) {
        return world.nodes.get(location < 6 ? location : world.edges.get(location - 6).from()).depth;
    }

    private boolean noTime(int location, int time) {
        if (time < 0 || time > 999) {
            return true;
        }
        int first = time / 10 % 10;
        int second = time % 10;
        int depth = depthOf(location);
        return (depth < 2 && second != 0) || (depth < 1 && first != 0);
    }

    private boolean noOutputs(int outputs) {
        for (int k = 0; k < 32; k++) {
            if ((outputs & (1 << k)) != 0 && k >= world.edges.size()) {
                return true;
            }
        }
        return false;
    }

    private List<Integer> edgesOf(int outputs) {
        List<Integer> edges = new ArrayList<>();
        for (int k = 0; k < world.edges.size(); k++) {
            if ((outputs & (1 << k)) != 0) {
                edges.add(k);
            }
        }
        return edges;
    }

    int addNode(int depth, int input) {
        if (depth < 0 || depth > 2 || noBit(input) || (input == 1 && depth > 0)) {
            return error(-2);
        }
        if (world.event) {
            return error(-3);
        }
        if (world.nodes.size() == 6) {
            return error(-4);
        }
        save();
        world.nodes.add(new Node(depth, input == 1));
        int node = world.nodes.size() - 1;
        if (input == 1) {
            apply(0, new Update(node, 0, 1));
            apply(1, new Update(node, 0, 1));
        }
        return node;
    }

    int addEdge(int from, int to, int feedback) {
        if (noNode(from) || noNode(to) || noBit(feedback)) {
            return error(-2);
        }
        int df = world.nodes.get(from).depth;
        int dt = world.nodes.get(to).depth;
        if (world.event || world.nodes.get(to).input || Math.abs(df - dt) > 1
                || (feedback == 1 && (df != dt || df == 0))) {
            return error(-3);
        }
        int kind = df < dt ? 1 : df > dt ? 2 : feedback == 1 ? 3 : 0;
        List<Edge> tried = new ArrayList<>(world.edges);
        tried.add(new Edge(from, to, kind));
        List<Edge> way = new ArrayList<>();
        way.add(tried.get(tried.size() - 1));
        if (badCycle(tried, way, from)) {
            return error(-3);
        }
        if (world.edges.size() == 10) {
            return error(-4);
        }
        save();
        world.edges.add(tried.get(tried.size() - 1));
        world.messages.get(0).add(new ArrayList<>());
        world.messages.get(1).add(new ArrayList<>());
        return world.edges.size() - 1;
    }

    // Goes through all simple cycles that begin with the edges of the way.
    private boolean badCycle(List<Edge> edges, List<Edge> way, int home) {
        int here = way.get(way.size() - 1).to();
        if (here == home) {
            int least = 9;
            for (Edge e : way) {
                least = Math.min(least, world.nodes.get(e.from()).depth);
            }
            for (Edge e : way) {
                if (e.kind() == 3 && world.nodes.get(e.from()).depth == least) {
                    return false;
                }
            }
            return true;
        }
        for (Edge e : edges) {
            boolean visited = e.to() != home && way.stream().anyMatch(x -> x.to() == e.to());
            if (e.from() == here && !visited) {
                way.add(e);
                boolean bad = badCycle(edges, way, home);
                way.remove(way.size() - 1);
                if (bad) {
                    return true;
                }
            }
        }
        return false;
    }

    int kind(int edge) {
        return noEdge(edge) ? error(-2) : world.edges.get(edge).kind();
    }

    private int moved(int edge, int time) {
        Edge e = world.edges.get(edge);
        int[] digits = {time / 100, time / 10 % 10, time % 10};
        int depth = world.nodes.get(e.from()).depth;
        if (e.kind() == 2) {
            digits[depth] = 0;
        }
        if (e.kind() == 3) {
            if (digits[depth] == 9) {
                return -1;
            }
            digits[depth]++;
        }
        return 100 * digits[0] + 10 * digits[1] + digits[2];
    }

    int move(int edge, int time) {
        return noEdge(edge) || noTime(6 + edge, time) ? error(-2) : moved(edge, time);
    }

    private void walk(int location, int time, Set<Integer> seen) {
        if (!seen.add(1000 * location + time)) {
            return;
        }
        if (location >= 6) {
            int after = moved(location - 6, time);
            if (after != -1) {
                walk(world.edges.get(location - 6).to(), after, seen);
            }
            return;
        }
        for (int k = 0; k < world.edges.size(); k++) {
            if (world.edges.get(k).from() == location) {
                walk(6 + k, time, seen);
            }
        }
    }

    private Set<Integer> reachable(int location, int time) {
        Set<Integer> seen = new HashSet<>();
        walk(location, time, seen);
        return seen;
    }

    private static boolean atMost(int s, int t) {
        return s / 100 <= t / 100 && s % 100 <= t % 100;
    }

    private boolean could(int a, int t, int b, int u) {
        for (int stamp : reachable(a, t)) {
            if (stamp / 1000 == b && atMost(stamp % 1000, u)) {
                return true;
            }
        }
        return false;
    }

    int couldResultIn(int a, int t, int b, int u) {
        if (noLocation(a) || noTime(a, t) || noLocation(b) || noTime(b, u)) {
            return error(-2);
        }
        return could(a, t, b, u) ? 1 : 0;
    }

    int earliest(int a, int t, int b) {
        if (noLocation(a) || noTime(a, t) || noLocation(b)) {
            return error(-2);
        }
        int least = -1;
        for (int stamp : reachable(a, t)) {
            if (stamp / 1000 == b && (least == -1 || stamp % 1000 < least)) {
                least = stamp % 1000;
            }
        }
        return least;
    }

    private void apply(int worker, Update update) {
        int stamp = 1000 * update.location() + update.time();
        world.views.get(worker).merge(stamp, update.change(), Integer::sum);
    }

    private void perform(int worker, List<Update> updates) {
        for (Update update : updates) {
            apply(worker, update);
            world.queues.get(1 - worker).add(update);
        }
    }

    private void begin() {
        save();
        world.event = true;
    }

    int send(int edge, int worker) {
        if (noEdge(edge) || noBit(worker)) {
            return error(-2);
        }
        Node node = world.nodes.get(world.edges.get(edge).from());
        if (!node.input || node.closed) {
            return error(-3);
        }
        if (world.messages.get(worker).get(edge).size() == MESSAGES_PER_EDGE) {
            return error(-4);
        }
        begin();
        int time = 100 * world.nodes.get(world.edges.get(edge).from()).epoch;
        world.messages.get(worker).get(edge).add(time);
        perform(0, List.of(new Update(6 + edge, time, 1)));
        return time;
    }

    int advance(int n) {
        if (noNode(n)) {
            return error(-2);
        }
        Node node = world.nodes.get(n);
        if (!node.input || node.closed || node.epoch == 9) {
            return error(-3);
        }
        begin();
        node.epoch++;
        perform(0, List.of(new Update(n, 100 * node.epoch, 1), new Update(n, 100 * node.epoch - 100, -1)));
        return node.epoch;
    }

    int close(int n) {
        if (noNode(n)) {
            return error(-2);
        }
        Node node = world.nodes.get(n);
        if (!node.input || node.closed) {
            return error(-3);
        }
        begin();
        node.closed = true;
        perform(0, List.of(new Update(n, 100 * node.epoch, -1)));
        return node.epoch;
    }

    private boolean startElsewhere(int outputs, int node) {
        return edgesOf(outputs).stream().anyMatch(k -> world.edges.get(k).from() != node);
    }

    private boolean full(int outputs, int target) {
        return edgesOf(outputs).stream()
                .anyMatch(k -> world.messages.get(target).get(k).size() == MESSAGES_PER_EDGE);
    }

    int process(int worker, int edge, int outputs, int target, int request) {
        if (noBit(worker) || noEdge(edge) || noBit(target) || noBit(request) || noOutputs(outputs)) {
            return error(-2);
        }
        int node = world.edges.get(edge).to();
        List<Integer> box = world.messages.get(worker).get(edge);
        if (box.isEmpty() || startElsewhere(outputs, node)) {
            return error(-3);
        }
        if (full(outputs, target) || (request == 1 && world.requests.get(worker).size() == 12)) {
            return error(-4);
        }
        begin();
        int before = box.remove(0);
        int time = moved(edge, before);
        List<Update> updates = new ArrayList<>();
        if (time == -1) {
            drops++;
        } else {
            for (int k : edgesOf(outputs)) {
                world.messages.get(target).get(k).add(time);
                updates.add(new Update(6 + k, time, 1));
            }
            if (request == 1) {
                world.requests.get(worker).add(new Notification(node, time));
                updates.add(new Update(node, time, 1));
            }
            if (world.delivered.stream().anyMatch(x -> x.node() == node && atMost(time, x.time()))) {
                world.violations++;
            }
        }
        updates.add(new Update(6 + edge, before, -1));
        perform(worker, updates);
        return time;
    }

    private TreeSet<Integer> actives(int worker) {
        TreeSet<Integer> actives = new TreeSet<>();
        world.views.get(worker).forEach((stamp, count) -> {
            if (count > 0) {
                actives.add(stamp);
            }
        });
        return actives;
    }

    private TreeSet<Integer> frontierOf(int worker) {
        TreeSet<Integer> frontier = actives(worker);
        for (int p : actives(worker)) {
            Map<Integer, Integer> least = new TreeMap<>();
            for (int stamp : reachable(p / 1000, p % 1000)) {
                least.merge(stamp / 1000, stamp % 1000, Math::min);
            }
            frontier.removeIf(q -> q != p && least.containsKey(q / 1000) && atMost(least.get(q / 1000), q % 1000));
        }
        return frontier;
    }

    private int next(int worker, int node) {
        return next(worker, node, frontierOf(worker));
    }

    private int next(int worker, int node, TreeSet<Integer> frontier) {
        int least = -1;
        for (Notification x : world.requests.get(worker)) {
            if (x.node() == node && frontier.contains(1000 * node + x.time()) && (least == -1 || x.time() < least)) {
                least = x.time();
            }
        }
        return least;
    }

    int deliver(int worker, int node, int outputs, int target) {
        if (noBit(worker) || noNode(node) || noBit(target) || noOutputs(outputs)) {
            return error(-2);
        }
        int time = next(worker, node);
        if (time == -1 || startElsewhere(outputs, node)) {
            return error(-3);
        }
        if (full(outputs, target)) {
            return error(-4);
        }
        begin();
        world.requests.get(worker).remove(new Notification(node, time));
        List<Update> updates = new ArrayList<>();
        for (int k : edgesOf(outputs)) {
            world.messages.get(target).get(k).add(time);
            updates.add(new Update(6 + k, time, 1));
        }
        updates.add(new Update(node, time, -1));
        perform(worker, updates);
        world.delivered.add(new Notification(node, time));
        return time;
    }

    int receive(int worker, int count) {
        if (noBit(worker) || count < 1 || count > 99) {
            return error(-2);
        }
        save();
        int received = 0;
        while (received < count && !world.queues.get(worker).isEmpty()) {
            apply(worker, world.queues.get(worker).remove(0));
            received++;
        }
        return received;
    }

    int messages(int worker, int edge) {
        return noBit(worker) || noEdge(edge) ? error(-2) : world.messages.get(worker).get(edge).size();
    }

    int messageTime(int worker, int edge, int index) {
        if (noBit(worker) || noEdge(edge) || index < 0) {
            return error(-2);
        }
        List<Integer> box = world.messages.get(worker).get(edge);
        return index < box.size() ? box.get(index) : -1;
    }

    private int requestsAt(int worker, int node) {
        return (int) world.requests.get(worker).stream().filter(x -> x.node() == node).count();
    }

    int requests(int worker, int node) {
        return noBit(worker) || noNode(node) ? error(-2) : requestsAt(worker, node);
    }

    int deliverable(int worker, int node) {
        return noBit(worker) || noNode(node) ? error(-2) : next(worker, node);
    }

    int count(int worker, int location, int time) {
        if (noBit(worker) || noLocation(location) || noTime(location, time)) {
            return error(-2);
        }
        return 1000 + world.views.get(worker).getOrDefault(1000 * location + time, 0);
    }

    int active(int worker) {
        return noBit(worker) ? error(-2) : actives(worker).size();
    }

    int frontier(int worker, int index) {
        if (noBit(worker) || index < -1) {
            return error(-2);
        }
        List<Integer> frontier = new ArrayList<>(frontierOf(worker));
        if (index == -1) {
            return frontier.size();
        }
        return index < frontier.size() ? frontier.get(index) : -1;
    }

    int pending(int worker) {
        return noBit(worker) ? error(-2) : world.queues.get(worker).size();
    }

    int delivered() {
        return world.delivered.size();
    }

    int violations() {
        return world.violations;
    }

    int undo() {
        if (saved.isEmpty()) {
            return error(-5);
        }
        world = saved.remove(saved.size() - 1);
        return saved.size();
    }

    int errorCount(int code) {
        return code < -5 || code > -2 ? error(-2) : errors[-2 - code];
    }

    long digest() {
        List<Integer> values = new ArrayList<>();
        for (int e : errors) {
            values.add(e);
        }
        values.add(world.nodes.size());
        for (Node node : world.nodes) {
            values.add(node.depth);
            values.add(!node.input ? -1 : node.closed ? -2 : node.epoch);
        }
        values.add(world.edges.size());
        for (Edge e : world.edges) {
            values.addAll(List.of(e.from(), e.to(), e.kind()));
        }
        for (int w = 0; w < 2; w++) {
            for (List<Integer> box : world.messages.get(w)) {
                values.add(box.size());
                values.addAll(box);
            }
            TreeSet<Integer> frontier = frontierOf(w);
            for (int n = 0; n < world.nodes.size(); n++) {
                values.add(requestsAt(w, n));
                values.add(next(w, n, frontier));
            }
            values.add(actives(w).size());
            values.add(frontier.size());
            values.addAll(frontier);
            values.add(world.queues.get(w).size());
        }
        values.addAll(List.of(world.delivered.size(), world.violations, saved.size()));
        long h = 2731;
        for (int v : values) {
            h = 31 * h + v;
        }
        return h;
    }
}
