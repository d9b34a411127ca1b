import java.util.Arrays;

/**
 * A simulator of probabilistic packet marking: routers mark passing packets at random with
 * fragments of their addresses, and the victim reconstructs the tree of attack paths.
 */
public final class PacketTraceback {
    public static final int NO_SUCH_ROUTER = -1;
    public static final int BAD_VALUE = -2;
    public static final int DUPLICATE = -3;
    public static final int FULL = -4;
    public static final int NO_SUCH_NODE = -5;
    public static final int TOO_MANY = -6;
    public static final int NONE = -7;

    private static final int ROUTERS = 20;
    private static final int ADDRESSES = 4096;
    private static final int OFFSETS = 4;
    private static final int FRAGMENTS = 32;
    private static final int FRAGMENT_BITS = 5;
    private static final int DISTANCES = 32;
    private static final int LAST_TREE_DISTANCE = 20;
    private static final int MOST_COMBINATIONS = 4096;
    private static final int MOST_NODES = 100;
    private static final int MOST_SENT = 500;
    private static final int MOST_TRIED = 2000;
    /** Addresses that share fragment 3 of their words stand in blocks of this length. */
    private static final int SAME_FRAGMENT_3 = 128;
    /** Addresses that share fragment 2 as well stand in blocks of this length. */
    private static final int SAME_FRAGMENT_2 = 4;

    private final Network network;
    private final Generator generator;
    private final Packet packet;
    private final MarkRecord marks;
    private final int[] offsetsSeen;
    private int markingPercent;
    private NodeTable nodes;
    /** A reconstruction fills this table, so that one that fails leaves the nodes as they were. */
    private NodeTable spareNodes;

    public PacketTraceback() {
        network = new Network();
        generator = new Generator();
        packet = new Packet();
        marks = new MarkRecord();
        offsetsSeen = new int[ROUTERS];
        markingPercent = 20;
        nodes = new NodeTable();
        spareNodes = new NodeTable();
    }

    // ---- network

    public int addRouter(int parent, int address) {
        if (!network.isEmpty() && !network.has(parent)) {
            return NO_SUCH_ROUTER;
        }
        if (!isBelow(address, ADDRESSES)) {
            return BAD_VALUE;
        }
        if (network.has(network.find(address))) {
            return DUPLICATE;
        }
        return network.append(parent, address);
    }

    public int routerCount() {
        return network.size();
    }

    public int depth(int router) {
        return network.has(router) ? network.depthOf(router) : NO_SUCH_ROUTER;
    }

    public int digest(int address) {
        return isBelow(address, ADDRESSES) ? digestOf(address) : BAD_VALUE;
    }

    public int fragment(int address, int offset) {
        if (!isBelow(address, ADDRESSES) || !isBelow(offset, OFFSETS)) {
            return BAD_VALUE;
        }
        return fragmentOf(wordOf(address), offset);
    }

    // ---- packets

    public int setMarkingPercent(int percent) {
        if (!isFromOneTo(percent, 100)) {
            return BAD_VALUE;
        }
        int previous = markingPercent;
        markingPercent = percent;
        return previous;
    }

    public int setSeed(int seed) {
        return generator.restart(seed);
    }

    public int clearMarks() {
        int received = marks.received();
        marks.clear();
        return received;
    }

    public int sendPackets(int router, int count) {
        if (!network.has(router)) {
            return NO_SUCH_ROUTER;
        }
        if (!isFromOneTo(count, MOST_SENT)) {
            return BAD_VALUE;
        }
        int markedByRouter = 0;
        for (int sent = 0; sent < count; sent++) {
            packet.startUnmarked();
            markedByRouter += deliver(router);
        }
        return markedByRouter;
    }

    public int sendForged(int router, int count, int distance, int offset, int fragment) {
        if (!network.has(router)) {
            return NO_SUCH_ROUTER;
        }
        if (!isFromOneTo(count, MOST_SENT) || !isMark(distance, offset, fragment)) {
            return BAD_VALUE;
        }
        int markedByRouter = 0;
        for (int sent = 0; sent < count; sent++) {
            packet.startForged(distance, offset, fragment);
            markedByRouter += deliver(router);
        }
        return markedByRouter;
    }

    // ---- recorded marks

    public int packetsAtDistance(int distance) {
        return isBelow(distance, DISTANCES) ? marks.countAt(distance) : BAD_VALUE;
    }

    public int unmarkedCount() {
        return marks.unmarked();
    }

    public int markCount(int distance, int offset, int fragment) {
        return isMark(distance, offset, fragment)
                ? marks.countOf(distance, offset, fragment) : BAD_VALUE;
    }

    public int fragmentCount(int distance, int offset) {
        if (!isBelow(distance, DISTANCES) || !isBelow(offset, OFFSETS)) {
            return BAD_VALUE;
        }
        return marks.differentFragments(distance, offset);
    }

    public int greatestDistance() {
        for (int distance = DISTANCES - 1; distance >= 0; distance--) {
            if (marks.hasDistance(distance)) {
                return distance;
            }
        }
        return NONE;
    }

    public int isPathComplete(int router) {
        if (!network.has(router)) {
            return NO_SUCH_ROUTER;
        }
        int at = router;
        for (int hops = 0; hops < ROUTERS && network.has(at); hops++) {
            if (!marks.holdsWord(network.depthOf(at), network.trueMarksOf(at))) {
                return 0;
            }
            at = network.parentOf(at);
        }
        return 1;
    }

    public int packetsNeeded(int router, int limit) {
        if (!network.has(router)) {
            return NO_SUCH_ROUTER;
        }
        if (!isFromOneTo(limit, MOST_TRIED)) {
            return BAD_VALUE;
        }
        int before = generator.state();
        int needed = tryPackets(router, limit);
        generator.restart(before);
        return needed;
    }

    // ---- reconstruction

    public int reconstruct() {
        spareNodes.clear();
        if (!findTree()) {
            return TOO_MANY;
        }
        NodeTable found = spareNodes;
        spareNodes = nodes;
        nodes = found;
        return nodes.size();
    }

    public int nodeCount() {
        return nodes.size();
    }

    public int nodeAddress(int node) {
        return nodes.has(node) ? nodes.addressOf(node) : NO_SUCH_NODE;
    }

    public int nodeDistance(int node) {
        return nodes.has(node) ? nodes.distanceOf(node) : NO_SUCH_NODE;
    }

    public int nodeParent(int node) {
        return nodes.has(node) ? nodes.parentOf(node) : NO_SUCH_NODE;
    }

    public int nodeRouter(int node) {
        return nodes.has(node) ? routerBehind(node) : NO_SUCH_NODE;
    }

    public int falseNodeCount() {
        int falseNodes = 0;
        for (int node = 0; node < nodes.size(); node++) {
            if (routerBehind(node) == NONE) {
                falseNodes++;
            }
        }
        return falseNodes;
    }

    public int nodeOf(int router) {
        if (!network.has(router)) {
            return NO_SUCH_ROUTER;
        }
        for (int node = 0; node < nodes.size(); node++) {
            if (routerBehind(node) == router) {
                return node;
            }
        }
        return NONE;
    }

    // ---- ranges, words and fragments

    private static boolean isBelow(int value, int bound) {
        return value >= 0 && value < bound;
    }

    private static boolean isFromOneTo(int value, int greatest) {
        return value >= 1 && value <= greatest;
    }

    private static boolean isMark(int distance, int offset, int fragment) {
        return isBelow(distance, DISTANCES) && isBelow(offset, OFFSETS)
                && isBelow(fragment, FRAGMENTS);
    }

    private static int digestOf(int address) {
        return (((address * 167 + 29) >> 3) ^ address) & 255;
    }

    private static int wordOf(int address) {
        return address * 256 + digestOf(address);
    }

    private static int fragmentOf(int word, int offset) {
        return (word >> (offset * FRAGMENT_BITS)) & (FRAGMENTS - 1);
    }

    // ---- the way of a packet

    /** Answers 1 if the packet arrived with a mark that a router had made, otherwise 0. */
    private int deliver(int router) {
        carryToVictim(router);
        marks.note(packet);
        return packet.isMarkedByRouter() ? 1 : 0;
    }

    private void carryToVictim(int router) {
        int at = router;
        for (int hops = 0; hops < ROUTERS && network.has(at); hops++) {
            passRouter(network.wordAt(at));
            at = network.parentOf(at);
        }
    }

    private void passRouter(int word) {
        if (generator.draw() % 100 < markingPercent) {
            int offset = generator.draw() % OFFSETS;
            packet.takeMark(offset, fragmentOf(word, offset));
        } else {
            packet.goOn(word);
        }
    }

    private int tryPackets(int router, int limit) {
        Arrays.fill(offsetsSeen, 0);
        int missing = (network.depthOf(router) + 1) * OFFSETS;
        for (int sent = 1; sent <= limit; sent++) {
            packet.startUnmarked();
            carryToVictim(router);
            if (isNewOnPath()) {
                missing--;
            }
            if (missing == 0) {
                return sent;
            }
        }
        return NONE;
    }

    /**
     * On one path without forged marks, distance and offset settle the fragment; so it is enough
     * to note which offsets arrived from which distance.
     */
    private boolean isNewOnPath() {
        int distance = packet.distance();
        if (!packet.isMarkedByRouter() || !isBelow(distance, ROUTERS)) {
            return false;
        }
        int seen = offsetsSeen[distance];
        offsetsSeen[distance] = seen | (1 << packet.offset());
        return offsetsSeen[distance] != seen;
    }

    // ---- the victim's tree

    /** Answers false if there are too many combinations or nodes. */
    private boolean findTree() {
        int levelStart = 0;
        for (int distance = 0; distance <= LAST_TREE_DISTANCE; distance++) {
            int levelEnd = spareNodes.size();
            if (marks.combinations(distance) > MOST_COMBINATIONS
                    || !findLevel(distance, levelStart, levelEnd)) {
                return false;
            }
            if (spareNodes.size() == levelEnd) {
                return true;
            }
            levelStart = levelEnd;
        }
        return true;
    }

    private boolean findLevel(int distance, int firstParent, int parentsEnd) {
        if (distance == 0) {
            return findChildren(0, NONE, 0);
        }
        for (int parent = firstParent; parent < parentsEnd; parent++) {
            if (!findChildren(distance, parent, wordOf(spareNodes.addressOf(parent)))) {
                return false;
            }
        }
        return true;
    }

    /**
     * Goes through the addresses instead of the combinations: each address fits at most one
     * combination, and so the nodes come in ascending order of their addresses. Blocks of
     * addresses whose common fragment was not recorded are left out.
     */
    private boolean findChildren(int distance, int parent, int parentWord) {
        for (int block = 0; block < ADDRESSES; block += SAME_FRAGMENT_3) {
            if (!marks.holdsPart(distance, 3, wordOf(block) ^ parentWord)) {
                continue;
            }
            for (int part = block; part < block + SAME_FRAGMENT_3; part += SAME_FRAGMENT_2) {
                if (!marks.holdsPart(distance, 2, wordOf(part) ^ parentWord)) {
                    continue;
                }
                for (int address = part; address < part + SAME_FRAGMENT_2; address++) {
                    if (marks.holdsWord(distance, wordOf(address) ^ parentWord)
                            && !spareNodes.append(address, distance, parent)) {
                        return false;
                    }
                }
            }
        }
        return true;
    }

    /** Answers the router for which a node stands, NONE if the node is false. */
    private int routerBehind(int node) {
        int router = network.find(nodes.addressOf(node));
        int routerAt = router;
        int nodeAt = node;
        for (int hops = 0; hops < ROUTERS && network.has(routerAt) && nodes.has(nodeAt); hops++) {
            if (network.addressOf(routerAt) != nodes.addressOf(nodeAt)) {
                return NONE;
            }
            routerAt = network.parentOf(routerAt);
            nodeAt = nodes.parentOf(nodeAt);
        }
        // The two ways are the same only if they end together.
        return network.has(routerAt) || nodes.has(nodeAt) ? NONE : router;
    }

    /** The routers; a router's parent has a lower number, and the parent of router 0 is none. */
    private static final class Network {
        private final int[] parents;
        private final int[] addresses;
        private final int[] depths;
        private int count;

        Network() {
            parents = new int[ROUTERS];
            addresses = new int[ROUTERS];
            depths = new int[ROUTERS];
            count = 0;
        }

        int size() {
            return count;
        }

        boolean isEmpty() {
            return count == 0;
        }

        boolean has(int router) {
            return isBelow(router, count) && isBelow(router, ROUTERS);
        }

        int append(int parent, int address) {
            if (!isBelow(count, ROUTERS)) {
                return FULL;
            }
            int router = count;
            boolean isGateway = router == 0;
            parents[router] = isGateway ? NO_SUCH_ROUTER : parent;
            depths[router] = isGateway ? 0 : depthOf(parent) + 1;
            addresses[router] = address;
            count++;
            return router;
        }

        int find(int address) {
            for (int router = 0; router < count && router < ROUTERS; router++) {
                if (addresses[router] == address) {
                    return router;
                }
            }
            return NO_SUCH_ROUTER;
        }

        int parentOf(int router) {
            return has(router) ? parents[router] : NO_SUCH_ROUTER;
        }

        int addressOf(int router) {
            return has(router) ? addresses[router] : 0;
        }

        int depthOf(int router) {
            return has(router) ? depths[router] : 0;
        }

        int wordAt(int router) {
            return wordOf(addressOf(router));
        }

        /** The word whose four fragments are those of the router's marks. */
        int trueMarksOf(int router) {
            int parent = parentOf(router);
            return has(parent) ? wordAt(router) ^ wordAt(parent) : wordAt(router);
        }
    }

    /** The source of the numbers that the routers draw. */
    private static final class Generator {
        private int state;

        Generator() {
            state = 1;
        }

        int state() {
            return state;
        }

        int restart(int seed) {
            int previous = state;
            state = seed;
            return previous;
        }

        int draw() {
            state = state * 1103515245 + 12345;
            return (state >>> 16) & 32767;
        }
    }

    /** The packet under way; one object serves all packets, one after another. */
    private static final class Packet {
        private boolean marked;
        private boolean markedByRouter;
        private int distance;
        private int offset;
        private int fragment;

        Packet() {
            marked = false;
            markedByRouter = false;
            distance = 0;
            offset = 0;
            fragment = 0;
        }

        void startUnmarked() {
            putMark(0, 0, 0);
            marked = false;
            markedByRouter = false;
        }

        void startForged(int forgedDistance, int forgedOffset, int forgedFragment) {
            putMark(forgedDistance, forgedOffset, forgedFragment);
            marked = true;
            markedByRouter = false;
        }

        void takeMark(int newOffset, int newFragment) {
            putMark(0, newOffset, newFragment);
            marked = true;
            markedByRouter = true;
        }

        private void putMark(int newDistance, int newOffset, int newFragment) {
            distance = newDistance;
            offset = newOffset;
            fragment = newFragment;
        }

        /** Passes a router that has this word and leaves the mark in its place. */
        void goOn(int word) {
            if (!marked) {
                return;
            }
            if (distance == 0) {
                fragment ^= fragmentOf(word, offset);
            }
            if (distance < DISTANCES - 1) {
                distance++;
            }
        }

        boolean isMarked() {
            return marked;
        }

        boolean isMarkedByRouter() {
            return markedByRouter;
        }

        int distance() {
            return distance;
        }

        int offset() {
            return offset;
        }

        int fragmentValue() {
            return fragment;
        }
    }

    /** What the victim has received. */
    private static final class MarkRecord {
        private final int[] counts;
        /** For each distance and offset the recorded fragments, a bit each. */
        private final int[] fragmentSets;
        private int unmarkedPackets;
        private int markedPackets;

        MarkRecord() {
            counts = new int[DISTANCES * OFFSETS * FRAGMENTS];
            fragmentSets = new int[DISTANCES * OFFSETS];
            unmarkedPackets = 0;
            markedPackets = 0;
        }

        /** The masks keep the place inside the row for whatever arguments. */
        private static int setPlace(int distance, int offset) {
            return (distance & (DISTANCES - 1)) * OFFSETS + (offset & (OFFSETS - 1));
        }

        private static int countPlace(int distance, int offset, int fragment) {
            return setPlace(distance, offset) * FRAGMENTS + (fragment & (FRAGMENTS - 1));
        }

        void clear() {
            Arrays.fill(counts, 0);
            Arrays.fill(fragmentSets, 0);
            unmarkedPackets = 0;
            markedPackets = 0;
        }

        void note(Packet packet) {
            if (packet == null) {
                return;
            }
            if (!packet.isMarked()) {
                unmarkedPackets++;
                return;
            }
            int fragment = packet.fragmentValue();
            markedPackets++;
            counts[countPlace(packet.distance(), packet.offset(), fragment)]++;
            fragmentSets[setPlace(packet.distance(), packet.offset())] |= 1 << fragment;
        }

        int received() {
            return unmarkedPackets + markedPackets;
        }

        int unmarked() {
            return unmarkedPackets;
        }

        int countOf(int distance, int offset, int fragment) {
            return counts[countPlace(distance, offset, fragment)];
        }

        int countAt(int distance) {
            int sum = 0;
            for (int offset = 0; offset < OFFSETS; offset++) {
                for (int fragment = 0; fragment < FRAGMENTS; fragment++) {
                    sum += countOf(distance, offset, fragment);
                }
            }
            return sum;
        }

        boolean hasDistance(int distance) {
            for (int offset = 0; offset < OFFSETS; offset++) {
                if (fragmentSets[setPlace(distance, offset)] != 0) {
                    return true;
                }
            }
            return false;
        }

        int differentFragments(int distance, int offset) {
            return Integer.bitCount(fragmentSets[setPlace(distance, offset)]);
        }

        int combinations(int distance) {
            int product = 1;
            for (int offset = 0; offset < OFFSETS; offset++) {
                product *= differentFragments(distance, offset);
            }
            return product;
        }

        /** Tells whether the word's fragment of this offset is recorded with this distance. */
        boolean holdsPart(int distance, int offset, int word) {
            int set = fragmentSets[setPlace(distance, offset)];
            return ((set >>> fragmentOf(word, offset)) & 1) != 0;
        }

        boolean holdsWord(int distance, int word) {
            for (int offset = 0; offset < OFFSETS; offset++) {
                if (!holdsPart(distance, offset, word)) {
                    return false;
                }
            }
            return true;
        }
    }

    /** The nodes of one reconstruction; the parent of a node of distance 0 is NONE. */
    private static final class NodeTable {
        private final int[] addresses;
        private final int[] distances;
        private final int[] parents;
        private int count;

        NodeTable() {
            addresses = new int[MOST_NODES];
            distances = new int[MOST_NODES];
            parents = new int[MOST_NODES];
            count = 0;
        }

        void clear() {
            count = 0;
        }

        int size() {
            return count;
        }

        boolean has(int node) {
            return isBelow(node, count) && isBelow(node, MOST_NODES);
        }

        /** Answers false, and adds nothing, if the table is full. */
        boolean append(int address, int distance, int parent) {
            if (!isBelow(count, MOST_NODES)) {
                return false;
            }
            addresses[count] = address;
            distances[count] = distance;
            parents[count] = parent;
            count++;
            return true;
        }

        int addressOf(int node) {
            return has(node) ? addresses[node] : 0;
        }

        int distanceOf(int node) {
            return has(node) ? distances[node] : 0;
        }

        int parentOf(int node) {
            return has(node) ? parents[node] : NONE;
        }
    }
}
