import java.util.ArrayList;
import java.util.List;

/**
 * A run of calls that is made anew on a new object for each question, since an object is used for
 * at most 512 calls. A world never changes; what is added gives another world.
 */
final class World {
    static final int MOST_CALLS = 512;
    static final int GATEWAY = 17;
    /** From this state 994 numbers are drawn of which none is a multiple of 100; found by search. */
    static final int QUIET_SEED = 4355;

    private static final World EMPTY = new World(List.of());
    private static final List<Call> QUESTIONS = questions();
    private static final List<Call> LATER_CALLS = laterCalls();

    private final List<Call> calls;
    private List<Integer> seenBefore;

    private World(List<Call> calls) {
        this.calls = calls;
    }

    static World of(List<Call> calls) {
        return new World(List.copyOf(calls));
    }

    /** A new object. */
    static World empty() {
        return EMPTY;
    }

    /** Router 0 alone, with the marking percentage 20 and the seed 1 of a new object. */
    static World lone() {
        return EMPTY.and("addRouter", 0, GATEWAY);
    }

    /** Four routers, true and false nodes, and marks that came after the reconstruction. */
    static World busy() {
        return lone().and("addRouter", 0, 300).and("addRouter", 1, 4000).and("addRouter", 0, 5)
                .and("setMarkingPercent", 30).and("sendPackets", 2, 300).and("sendPackets", 3, 200)
                .and("setMarkingPercent", 1).and("setSeed", QUIET_SEED).node(2, 4095, 300)
                .and("reconstruct").and("sendForged", 3, 40, 5, 1, 30).and("sendPackets", 1, 100)
                .and("setMarkingPercent", 37).and("setSeed", -77);
    }

    /** Twenty routers in a row, with the addresses 100, 137, 174 and so on. */
    static World row() {
        World row = EMPTY;
        for (int router = 0; router < 20; router++) {
            row = row.and("addRouter", router - 1, 100 + 37 * router);
        }
        return row;
    }

    /** The row with all its marks recorded and all its nodes found. */
    static World full() {
        World full = row().and("setMarkingPercent", 10);
        for (int times = 0; times < 8; times++) {
            full = full.and("sendPackets", 19, 500);
        }
        return full.and("reconstruct");
    }

    /** Router 0 alone with its four marks recorded, ready for forged marks. */
    static World gateway() {
        return lone().and("setMarkingPercent", 100).and("sendPackets", 0, 50).forging();
    }

    /** From here on a forged mark of one packet passes router 0 without being replaced. */
    World forging() {
        return and("setMarkingPercent", 1).and("setSeed", QUIET_SEED);
    }

    World and(String method, int... arguments) {
        return and(new Call(method, arguments));
    }

    World and(Call call) {
        return andAll(List.of(call));
    }

    World andAll(List<Call> more) {
        List<Call> longer = new ArrayList<>(calls);
        longer.addAll(more);
        return new World(List.copyOf(longer));
    }

    World times(int times, String method, int... arguments) {
        World world = this;
        for (int i = 0; i < times; i++) {
            world = world.and(method, arguments);
        }
        return world;
    }

    /** Records one mark with a distance of 1 or more; router 0 joins its word to distance 1. */
    World mark(int distance, int offset, int fragment) {
        int joined = distance == 1 ? NaiveTraceback.fragments(GATEWAY)[offset] : 0;
        return and("sendForged", 0, 1, distance - 1, offset, fragment ^ joined);
    }

    /** Records the marks by which the tree gets a node with this address below this parent. */
    World node(int distance, int address, int parentAddress) {
        World world = this;
        for (int offset = 0; offset < 4; offset++) {
            world = world.mark(distance, offset, NaiveTraceback.fragments(address)[offset]
                    ^ NaiveTraceback.fragments(parentAddress)[offset]);
        }
        return world;
    }

    /** Records, for each offset, the fragments from 0 up to one below its count. */
    World fragments(int distance, int... counts) {
        World world = this;
        for (int offset = 0; offset < 4; offset++) {
            for (int fragment = 0; fragment < counts[offset]; fragment++) {
                world = world.mark(distance, offset, fragment);
            }
        }
        return world;
    }

    /** Records marks by which each node has just one node below it, with its own address. */
    World copies(int firstDistance, int lastDistance) {
        World world = this;
        for (int distance = firstDistance; distance <= lastDistance; distance++) {
            world = world.fragments(distance, 1, 1, 1, 1);
        }
        return world;
    }

    int size() {
        return calls.size();
    }

    /** How many packets its calls send, if none of them is refused. */
    int packetsSent() {
        return calls.stream().filter(call -> call.method().startsWith("send"))
                .mapToInt(call -> call.arguments()[1]).sum();
    }

    PacketTraceback make() {
        PacketTraceback x = new PacketTraceback();
        calls.forEach(call -> call.on(x));
        return x;
    }

    int ask(String method, int... arguments) {
        return ask(new Call(method, arguments));
    }

    int ask(Call question) {
        return answers(List.of(question)).get(0);
    }

    /** The answer of the plain second program. */
    int askNaive(String method, int... arguments) {
        NaiveTraceback naive = new NaiveTraceback();
        naive.mostNodes = 1000000;
        calls.forEach(call -> call.on(naive));
        return new Call(method, arguments).on(naive);
    }

    /** Whatever can be seen of the object, now and after some more calls. */
    List<Integer> seen() {
        if (seenBefore == null) {
            List<Integer> all = new ArrayList<>(answers(QUESTIONS));
            all.addAll(andAll(LATER_CALLS).answers(QUESTIONS));
            seenBefore = List.copyOf(all);
        }
        return seenBefore;
    }

    /** What the place in the list of what was seen tells. */
    static String nameOfSeen(int place) {
        String later = place < QUESTIONS.size() ? "" : "later ";
        return later + QUESTIONS.get(place % QUESTIONS.size()).text();
    }

    /** Answers the questions on as many objects as it takes. */
    List<Integer> answers(List<Call> questions) {
        int room = MOST_CALLS - calls.size();
        if (room < 1) {
            throw new IllegalStateException("no call is left for a question");
        }
        List<Integer> answers = new ArrayList<>();
        for (int first = 0; first < questions.size(); first += room) {
            PacketTraceback x = make();
            for (Call question : questions.subList(first, Math.min(first + room, questions.size()))) {
                answers.add(question.on(x));
            }
        }
        return answers;
    }

    /** Questions that change nothing, then those whose answer is what they replace. */
    static List<Call> questions() {
        List<Call> all = new ArrayList<>();
        for (String method : new String[] {"routerCount", "unmarkedCount", "greatestDistance",
            "nodeCount", "falseNodeCount"}) {
            all.add(new Call(method));
        }
        for (int router = 0; router <= 20; router++) {
            all.add(new Call("depth", router));
            all.add(new Call("isPathComplete", router));
            all.add(new Call("packetsNeeded", router, 100));
            all.add(new Call("nodeOf", router));
        }
        for (int node = 0; node <= 100; node++) {
            all.add(new Call("nodeAddress", node));
            all.add(new Call("nodeDistance", node));
            all.add(new Call("nodeParent", node));
            all.add(new Call("nodeRouter", node));
        }
        for (int place = 0; place < 32 * 4 * 32; place++) {
            all.add(new Call("markCount", place / 128, place / 32 % 4, place % 32));
        }
        for (int place = 0; place < 32 * 4; place++) {
            all.add(new Call("fragmentCount", place / 4, place % 4));
        }
        for (int distance = 0; distance < 32; distance++) {
            all.add(new Call("packetsAtDistance", distance));
        }
        all.add(new Call("setMarkingPercent", 50));
        all.add(new Call("setSeed", 50));
        all.add(new Call("clearMarks"));
        return List.copyOf(all);
    }

    /** Calls whose marks and nodes tell the parents and the addresses of the routers. */
    private static List<Call> laterCalls() {
        List<Call> all = new ArrayList<>();
        for (int router = 0; router < 20; router++) {
            all.add(new Call("sendPackets", router, 30));
        }
        all.add(new Call("addRouter", 0, 4090));
        all.add(new Call("sendForged", 0, 3, 30, 3, 31));
        all.add(new Call("reconstruct"));
        return List.copyOf(all);
    }
}
