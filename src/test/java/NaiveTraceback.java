import java.util.ArrayList;
import java.util.Comparator;
import java.util.List;
import java.util.Map;
import java.util.SortedSet;
import java.util.TreeMap;
import java.util.TreeSet;

/**
 * The document followed sentence by sentence, with the Java library and without care for speed:
 * what ModelTest compares the class with. It shares no code with the class.
 */
final class NaiveTraceback {
    record Router(int number, Router parent, int address, int depth) { }

    record Mark(int offset, int distance, int fragment) { }

    record Node(int number, Node parent, int address, int distance) { }

    /** Thrown inside a reconstruction that fails. */
    private static final class TooMany extends RuntimeException {
        private static final long serialVersionUID = 1;
    }

    final List<Router> routers = new ArrayList<>();
    final Map<Mark, Integer> received = new java.util.HashMap<>();
    List<Node> nodes = List.of();
    int unmarked = 0;
    int percent = 20;
    int state = 1;
    /** Raised by tests that want to know how many nodes a failed reconstruction had. */
    int mostNodes = 100;

    static int digestValue(int a) {
        return (((a * 167 + 29) >> 3) ^ a) & 255;
    }

    static int[] fragments(int a) {
        int rest = a * 256 + digestValue(a);
        int[] parts = new int[4];
        for (int i = 0; i < 4; i++) {
            parts[i] = rest % 32;
            rest /= 32;
        }
        return parts;
    }

    static boolean isAddress(int a) {
        return 0 <= a && a <= 4095;
    }

    Router router(int number) {
        return number >= 0 && number < routers.size() ? routers.get(number) : null;
    }

    int addRouter(int parent, int address) {
        if (routers.size() > 0 && router(parent) == null) return -1;
        if (!isAddress(address)) return -2;
        for (Router r : routers) if (r.address == address) return -3;
        if (routers.size() == 20) return -4;
        Router above = routers.isEmpty() ? null : router(parent);
        routers.add(new Router(routers.size(), above, address, above == null ? 0 : above.depth + 1));
        return routers.size() - 1;
    }

    int routerCount() {
        return routers.size();
    }

    int depth(int router) {
        return router(router) == null ? -1 : router(router).depth;
    }

    int digest(int address) {
        return isAddress(address) ? digestValue(address) : -2;
    }

    int fragment(int address, int offset) {
        return isAddress(address) && offset >= 0 && offset <= 3 ? fragments(address)[offset] : -2;
    }

    int setMarkingPercent(int value) {
        if (value < 1 || value > 100) return -2;
        int before = percent;
        percent = value;
        return before;
    }

    int setSeed(int seed) {
        int before = state;
        state = seed;
        return before;
    }

    int clearMarks() {
        int all = unmarked;
        for (int n : received.values()) all += n;
        received.clear();
        unmarked = 0;
        return all;
    }

    private int drawNumber() {
        state = state * 1103515245 + 12345;
        return (state >>> 16) & 32767;
    }

    /** The last router that marked the packet is put into marker[0]. */
    private Mark way(Router start, Mark mark, Router[] marker) {
        Mark now = mark;
        for (Router r = start; r != null; r = r.parent) {
            int[] parts = fragments(r.address);
            if (drawNumber() % 100 < percent) {
                int offset = drawNumber() % 4;
                now = new Mark(offset, 0, parts[offset]);
                marker[0] = r;
            } else if (now != null) {
                int value = now.distance == 0 ? now.fragment ^ parts[now.offset] : now.fragment;
                now = new Mark(now.offset, Math.min(31, now.distance + 1), value);
            }
        }
        return now;
    }

    private int send(Router start, int count, Mark mark) {
        int byRouter = 0;
        for (int i = 0; i < count; i++) {
            Router[] marker = new Router[1];
            Mark arrived = way(start, mark, marker);
            if (arrived == null) unmarked++;
            else received.merge(arrived, 1, Integer::sum);
            if (marker[0] != null) byRouter++;
        }
        return byRouter;
    }

    int sendPackets(int router, int count) {
        if (router(router) == null) return -1;
        if (count < 1 || count > 500) return -2;
        return send(router(router), count, null);
    }

    int sendForged(int router, int count, int distance, int offset, int fragment) {
        if (router(router) == null) return -1;
        if (count < 1 || count > 500 || badMark(distance, offset, fragment)) return -2;
        return send(router(router), count, new Mark(offset, distance, fragment));
    }

    private static boolean badMark(int distance, int offset, int fragment) {
        return distance < 0 || distance > 31 || offset < 0 || offset > 3 || fragment < 0 || fragment > 31;
    }

    int packetsAtDistance(int distance) {
        if (distance < 0 || distance > 31) return -2;
        return received.entrySet().stream().filter(e -> e.getKey().distance == distance)
                .mapToInt(Map.Entry::getValue).sum();
    }

    int unmarkedCount() {
        return unmarked;
    }

    int markCount(int distance, int offset, int fragment) {
        if (badMark(distance, offset, fragment)) return -2;
        return received.getOrDefault(new Mark(offset, distance, fragment), 0);
    }

    private SortedSet<Integer> recorded(int distance, int offset) {
        SortedSet<Integer> found = new TreeSet<>();
        for (Mark m : received.keySet()) {
            if (m.distance == distance && m.offset == offset) found.add(m.fragment);
        }
        return found;
    }

    int fragmentCount(int distance, int offset) {
        return badMark(distance, offset, 0) ? -2 : recorded(distance, offset).size();
    }

    int greatestDistance() {
        return received.keySet().stream().mapToInt(Mark::distance).max().orElse(-7);
    }

    private static List<Mark> marksOf(Router r) {
        int[] own = fragments(r.address);
        int[] above = r.parent == null ? new int[4] : fragments(r.parent.address);
        List<Mark> marks = new ArrayList<>();
        for (int i = 0; i < 4; i++) marks.add(new Mark(i, r.depth, own[i] ^ above[i]));
        return marks;
    }

    private static List<Mark> marksOfPath(Router start) {
        List<Mark> marks = new ArrayList<>();
        for (Router r = start; r != null; r = r.parent) marks.addAll(marksOf(r));
        return marks;
    }

    int isPathComplete(int router) {
        if (router(router) == null) return -1;
        return received.keySet().containsAll(marksOfPath(router(router))) ? 1 : 0;
    }

    int packetsNeeded(int router, int limit) {
        if (router(router) == null) return -1;
        if (limit < 1 || limit > 2000) return -2;
        int before = state;
        java.util.Set<Mark> wanted = new java.util.HashSet<>(marksOfPath(router(router)));
        int answer = -7;
        for (int i = 1; i <= limit && answer == -7; i++) {
            Mark arrived = way(router(router), null, new Router[1]);
            if (arrived != null) wanted.remove(arrived);
            if (wanted.isEmpty()) answer = i;
        }
        state = before;
        return answer;
    }

    /** All words of recorded fragments of a distance. */
    private List<Integer> words(int distance) {
        List<SortedSet<Integer>> sets = new ArrayList<>();
        long combinations = 1;
        for (int i = 0; i < 4; i++) {
            sets.add(recorded(distance, i));
            combinations *= sets.get(i).size();
        }
        if (combinations > 4096) throw new TooMany();
        List<Integer> found = new ArrayList<>();
        for (int a : sets.get(0)) for (int b : sets.get(1)) for (int c : sets.get(2)) for (int d : sets.get(3)) {
            found.add(a + 32 * b + 32 * 32 * c + 32 * 32 * 32 * d);
        }
        return found;
    }

    private List<Node> level(int distance, List<Node> parents, int firstNumber) {
        List<Node> found = new ArrayList<>();
        List<Integer> words = words(distance);
        for (Node parent : parents) {
            int mask = parent == null ? 0 : parent.address * 256 + digestValue(parent.address);
            for (int word : words) {
                int w = word ^ mask;
                if (digestValue(w / 256) == w % 256) found.add(new Node(0, parent, w / 256, distance));
            }
        }
        found.sort(Comparator.<Node>comparingInt(n -> n.parent == null ? -1 : n.parent.number)
                .thenComparingInt(Node::address));
        List<Node> numbered = new ArrayList<>();
        for (Node n : found) numbered.add(new Node(firstNumber + numbered.size(), n.parent, n.address, distance));
        return numbered;
    }

    int reconstruct() {
        List<Node> all = new ArrayList<>();
        List<Node> parents = new ArrayList<>();
        parents.add(null);
        try {
            for (int distance = 0; distance <= 20 && !parents.isEmpty(); distance++) {
                parents = level(distance, parents, all.size());
                all.addAll(parents);
                if (all.size() > mostNodes) throw new TooMany();
            }
        } catch (TooMany e) {
            return -6;
        }
        nodes = all;
        return all.size();
    }

    int nodeCount() {
        return nodes.size();
    }

    private Node node(int number) {
        return number >= 0 && number < nodes.size() ? nodes.get(number) : null;
    }

    int nodeAddress(int node) {
        return node(node) == null ? -5 : node(node).address;
    }

    int nodeDistance(int node) {
        return node(node) == null ? -5 : node(node).distance;
    }

    int nodeParent(int node) {
        if (node(node) == null) return -5;
        return node(node).distance == 0 ? -7 : node(node).parent.number;
    }

    private static List<Integer> addressesUp(Node start) {
        List<Integer> way = new ArrayList<>();
        for (Node n = start; n != null; n = n.parent) way.add(n.address);
        return way;
    }

    private static List<Integer> addressesUp(Router start) {
        List<Integer> way = new ArrayList<>();
        for (Router r = start; r != null; r = r.parent) way.add(r.address);
        return way;
    }

    private Map<List<Integer>, Integer> routersByWay() {
        Map<List<Integer>, Integer> byWay = new java.util.HashMap<>();
        for (Router r : routers) byWay.put(addressesUp(r), r.number);
        return byWay;
    }

    int nodeRouter(int node) {
        return node(node) == null ? -5 : routersByWay().getOrDefault(addressesUp(node(node)), -7);
    }

    int falseNodeCount() {
        Map<List<Integer>, Integer> byWay = routersByWay();
        return (int) nodes.stream().filter(n -> !byWay.containsKey(addressesUp(n))).count();
    }

    int nodeOf(int router) {
        if (router(router) == null) return -1;
        Map<List<Integer>, Integer> byWay = new TreeMap<>(Comparator.comparing(List::toString));
        for (Node n : nodes) byWay.put(addressesUp(n), n.number);
        return byWay.getOrDefault(addressesUp(router(router)), -7);
    }
}
