import java.util.Random;

/**
 * Each promise with ordinary inputs, the edges that the document names, and wrong inputs. The
 * answers were worked out by hand: from seed 1 the generator draws 16838, 5758, 10113, 17515 and
 * 31051; the fragments of 17 are 23, 11, 4, 0 and those of 300 are 22, 2, 11, 2.
 */
public final class PromiseTest {
    private static final Checks CHECKS = new Checks("PromiseTest");
    private static final int[] FAR = {Integer.MIN_VALUE, -1000000, 1000000, Integer.MAX_VALUE};

    public static void main(String[] args) {
        newObject();
        addRouter();
        addRouterUntilFull();
        routerCountAndDepth();
        digestAndFragment();
        setMarkingPercent();
        setSeed();
        clearMarks();
        sendPackets();
        sendPacketsErrors();
        sendForged();
        sendForgedErrors();
        packetsAtDistance();
        unmarkedCount();
        markCount();
        fragmentCount();
        greatestDistance();
        isPathComplete();
        packetsNeeded();
        packetsNeededChangesNothing();
        reconstructOrder();
        reconstructEndsAtGap();
        reconstructEndsAtDistance20();
        reconstructCombinations();
        reconstructNodeLimit();
        failedReconstructChangesNothing();
        nodesWithoutReconstruction();
        nodeFaults();
        trueAndFalseNodes();
        nodeBelowAnotherParent();
        laterRoutersMakeNodesTrue();
        CHECKS.finish();
    }

    private static void due(String call, int got, int want) {
        CHECKS.due(call, got, want);
    }

    private static PacketTraceback twoRouters() {
        PacketTraceback x = new PacketTraceback();
        x.addRouter(0, 17);
        x.addRouter(0, 300);
        return x;
    }

    /** Promise 1. */
    private static void newObject() {
        PacketTraceback x = new PacketTraceback();
        due("1: routerCount()", x.routerCount(), 0);
        due("1: nodeCount()", x.nodeCount(), 0);
        due("1: falseNodeCount()", x.falseNodeCount(), 0);
        due("1: unmarkedCount()", x.unmarkedCount(), 0);
        due("1: greatestDistance()", x.greatestDistance(), -7);
        for (int distance = 0; distance < 32; distance++) {
            due("1: packetsAtDistance", x.packetsAtDistance(distance), 0);
        }
        due("1: reconstruct()", x.reconstruct(), 0);
        due("1: clearMarks()", x.clearMarks(), 0);
        due("1: setMarkingPercent(5)", x.setMarkingPercent(5), 20);
        due("1: setSeed(5)", x.setSeed(5), 1);
        PacketTraceback other = new PacketTraceback();
        due("1: another object's percentage", other.setMarkingPercent(1), 20);
        due("1: another object's seed", other.setSeed(1), 1);
    }

    /** Promise 2. */
    private static void addRouter() {
        PacketTraceback x = new PacketTraceback();
        due("2: addRouter(0, -1)", x.addRouter(0, -1), -2);
        due("2: addRouter(0, 4096)", x.addRouter(0, 4096), -2);
        due("2: addRouter(77, 4095), parent ignored", x.addRouter(77, 4095), 0);
        due("2: depth(0)", x.depth(0), 0);
        due("2: addRouter(1, 0)", x.addRouter(1, 0), -1);
        due("2: addRouter(-1, 0)", x.addRouter(-1, 0), -1);
        due("2: addRouter(0, 0)", x.addRouter(0, 0), 1);
        due("2: addRouter(2, -1), no parent first", x.addRouter(2, -1), -1);
        due("2: addRouter(2, 4095), no parent first", x.addRouter(2, 4095), -1);
        due("2: addRouter(1, 4096)", x.addRouter(1, 4096), -2);
        due("2: addRouter(1, 4095)", x.addRouter(1, 4095), -3);
        due("2: addRouter(1, 0)", x.addRouter(1, 0), -3);
        for (int far : FAR) {
            due("2: addRouter(far, 1)", x.addRouter(far, 1), -1);
            due("2: addRouter(0, far)", x.addRouter(0, far), -2);
        }
        due("2: routerCount()", x.routerCount(), 2);
        due("2: addRouter(1, 1)", x.addRouter(1, 1), 2);
        due("2: depth(2)", x.depth(2), 2);
        PacketTraceback negative = new PacketTraceback();
        due("2: addRouter(MIN, 3), parent ignored", negative.addRouter(Integer.MIN_VALUE, 3), 0);
    }

    /** Promise 2, FULL and the order of the errors. */
    private static void addRouterUntilFull() {
        PacketTraceback x = new PacketTraceback();
        for (int i = 0; i < 20; i++) {
            due("2: addRouter in a row", x.addRouter(i - 1, 100 + i), i);
        }
        due("2: addRouter(19, 99)", x.addRouter(19, 99), -4);
        due("2: addRouter(0, 99)", x.addRouter(0, 99), -4);
        due("2: addRouter(20, 99)", x.addRouter(20, 99), -1);
        due("2: addRouter(19, 4096)", x.addRouter(19, 4096), -2);
        due("2: addRouter(19, 119)", x.addRouter(19, 119), -3);
        due("2: routerCount()", x.routerCount(), 20);
        due("2: depth(19)", x.depth(19), 19);
        due("2: depth(20)", x.depth(20), -1);
    }

    /** Promises 3 and 4. */
    private static void routerCountAndDepth() {
        PacketTraceback x = new PacketTraceback();
        due("4: depth(0)", x.depth(0), -1);
        int[] parents = {0, 0, 0, 1, 3, 2, 4};
        int[] depths = {0, 1, 1, 2, 3, 2, 4};
        for (int i = 0; i < parents.length; i++) {
            due("3: routerCount()", x.routerCount(), i);
            x.addRouter(parents[i], 10 * i);
            due("4: depth", x.depth(i), depths[i]);
        }
        due("3: routerCount()", x.routerCount(), 7);
        x.addRouter(0, 0);
        due("3: routerCount() after an error", x.routerCount(), 7);
        due("4: depth(7)", x.depth(7), -1);
        due("4: depth(-1)", x.depth(-1), -1);
        for (int far : FAR) {
            due("4: depth(far)", x.depth(far), -1);
        }
    }

    /** Promises 5 and 6. */
    private static void digestAndFragment() {
        PacketTraceback x = new PacketTraceback();
        int[][] known = {{0, 3, 3, 0, 0, 0}, {17, 119, 23, 11, 4, 0}, {300, 86, 22, 2, 11, 2},
            {4000, 143, 15, 4, 8, 31}, {2222, 157, 29, 20, 11, 17}, {4095, 17, 17, 24, 31, 31}};
        for (int[] row : known) {
            due("5: digest", x.digest(row[0]), row[1]);
            for (int offset = 0; offset < 4; offset++) {
                due("6: fragment", x.fragment(row[0], offset), row[2 + offset]);
            }
        }
        for (int address = 0; address < 4096; address++) {
            // An object answers 512 calls at most.
            PacketTraceback y = new PacketTraceback();
            int word = 0;
            for (int offset = 3; offset >= 0; offset--) {
                word = word * 32 + y.fragment(address, offset);
            }
            due("6: the fragments of " + address, word,
                    address * 256 + ((((address * 167 + 29) >> 3) ^ address) & 255));
        }
        due("5: digest(-1)", x.digest(-1), -2);
        due("5: digest(4096)", x.digest(4096), -2);
        due("6: fragment(-1, 0)", x.fragment(-1, 0), -2);
        due("6: fragment(4096, 0)", x.fragment(4096, 0), -2);
        due("6: fragment(0, -1)", x.fragment(0, -1), -2);
        due("6: fragment(0, 4)", x.fragment(0, 4), -2);
        for (int far : FAR) {
            due("5: digest(far)", x.digest(far), -2);
            due("6: fragment(far, 0)", x.fragment(far, 0), -2);
            due("6: fragment(0, far)", x.fragment(0, far), -2);
        }
    }

    /** Promise 7. */
    private static void setMarkingPercent() {
        PacketTraceback x = new PacketTraceback();
        due("7: setMarkingPercent(1)", x.setMarkingPercent(1), 20);
        due("7: setMarkingPercent(0)", x.setMarkingPercent(0), -2);
        due("7: setMarkingPercent(-1)", x.setMarkingPercent(-1), -2);
        due("7: setMarkingPercent(101)", x.setMarkingPercent(101), -2);
        due("7: setMarkingPercent(100)", x.setMarkingPercent(100), 1);
        for (int far : FAR) {
            due("7: setMarkingPercent(far)", x.setMarkingPercent(far), -2);
        }
        due("7: setMarkingPercent(55)", x.setMarkingPercent(55), 100);
        due("7: setMarkingPercent(55)", x.setMarkingPercent(55), 55);
    }

    /** Promise 8. */
    private static void setSeed() {
        PacketTraceback x = twoRouters();
        due("8: setSeed(MIN)", x.setSeed(Integer.MIN_VALUE), 1);
        due("8: setSeed(MAX)", x.setSeed(Integer.MAX_VALUE), Integer.MIN_VALUE);
        due("8: setSeed(1)", x.setSeed(1), Integer.MAX_VALUE);
        x.sendPackets(1, 1);
        due("8: the state after two numbers", x.setSeed(-5), -1770082073);
        x.setMarkingPercent(1);
        x.sendPackets(0, 1);
        due("8: the state after one number", x.setSeed(0), -1222596584);
        x.sendPackets(0, 501);
        x.sendPackets(2, 1);
        x.sendForged(0, 1, 32, 0, 0);
        due("8: an error draws nothing", x.setSeed(0), 0);
    }

    /** Promise 9. */
    private static void clearMarks() {
        PacketTraceback x = Forger.withGateway(17);
        due("9: reconstruct()", x.reconstruct(), 1);
        x.setMarkingPercent(7);
        int state = x.setSeed(1);
        x.setSeed(state);
        int unmarked = 100 - x.sendPackets(0, 100);
        due("9: unmarkedCount()", x.unmarkedCount(), unmarked);
        int stateAfter = x.setSeed(9);
        due("9: clearMarks() counts marked and unmarked", x.clearMarks(), 150);
        due("9: the seed stays", x.setSeed(stateAfter), 9);
        due("9: the percentage stays", x.setMarkingPercent(7), 7);
        due("9: the nodes stay", x.nodeCount(), 1);
        due("9: nodeAddress(0)", x.nodeAddress(0), 17);
        due("9: routerCount()", x.routerCount(), 1);
        due("9: unmarkedCount()", x.unmarkedCount(), 0);
        due("9: packetsAtDistance(0)", x.packetsAtDistance(0), 0);
        due("9: greatestDistance()", x.greatestDistance(), -7);
        due("9: isPathComplete(0)", x.isPathComplete(0), 0);
        for (int offset = 0; offset < 4; offset++) {
            due("9: fragmentCount", x.fragmentCount(0, offset), 0);
            due("9: markCount", x.markCount(0, offset, x.fragment(17, offset)), 0);
        }
        due("9: clearMarks() again", x.clearMarks(), 0);
        due("9: reconstruct() without marks", x.reconstruct(), 0);
        due("9: nodeCount()", x.nodeCount(), 0);
    }

    /** Promise 10. */
    private static void sendPackets() {
        PacketTraceback x = twoRouters();
        due("10: sendPackets(1, 2)", x.sendPackets(1, 2), 1);
        due("10: one unmarked", x.unmarkedCount(), 1);
        due("10: one marked by router 1", x.markCount(1, 3, 2), 1);
        due("10: five numbers drawn", x.setSeed(1), -112468174);

        x = twoRouters();
        x.setMarkingPercent(38);
        due("10: 38 is not less than 38", x.sendPackets(1, 1), 0);
        x.setSeed(1);
        x.setMarkingPercent(39);
        due("10: 38 is less than 39", x.sendPackets(1, 1), 1);
        due("10: router 0 replaced the mark", x.markCount(0, 3, 0), 1);
        due("10: four numbers drawn", x.setSeed(1), -999580867);
        due("10: sendPackets(0, 1)", x.sendPackets(0, 1), 1);
        due("10: the mark of router 0", x.markCount(0, 2, 4), 1);

        x = twoRouters();
        x.setMarkingPercent(100);
        due("10: sendPackets(1, 500)", x.sendPackets(1, 500), 500);
        due("10: sendPackets(0, 1)", x.sendPackets(0, 1), 1);
        due("10: packetsAtDistance(0)", x.packetsAtDistance(0), 501);
    }

    private static void sendPacketsErrors() {
        PacketTraceback x = twoRouters();
        due("10: sendPackets(2, 1)", x.sendPackets(2, 1), -1);
        due("10: sendPackets(-1, 1)", x.sendPackets(-1, 1), -1);
        due("10: sendPackets(2, 0), no router first", x.sendPackets(2, 0), -1);
        due("10: sendPackets(1, 0)", x.sendPackets(1, 0), -2);
        due("10: sendPackets(1, 501)", x.sendPackets(1, 501), -2);
        for (int far : FAR) {
            due("10: sendPackets(far, 1)", x.sendPackets(far, 1), -1);
            due("10: sendPackets(0, far)", x.sendPackets(0, far), -2);
        }
        due("10: errors send nothing", x.clearMarks(), 0);
        due("10: errors draw nothing", x.setSeed(1), 1);
    }

    /** Promise 11. */
    private static void sendForged() {
        PacketTraceback x = twoRouters();
        x.setMarkingPercent(1);
        due("11: sendForged(1, 1, 0, 2, 31)", x.sendForged(1, 1, 0, 2, 31), 0);
        due("11: joined with router 1 alone", x.markCount(2, 2, 31 ^ 11), 1);
        x.setSeed(1);
        due("11: sendForged(1, 1, 1, 0, 31)", x.sendForged(1, 1, 1, 0, 31), 0);
        due("11: joined with no router", x.markCount(3, 0, 31), 1);
        x.setSeed(1);
        due("11: sendForged(0, 1, 0, 0, 31)", x.sendForged(0, 1, 0, 0, 31), 0);
        due("11: joined with router 0", x.markCount(1, 0, 31 ^ 23), 1);
        x.setSeed(1);
        due("11: sendForged(1, 1, 30, 1, 0)", x.sendForged(1, 1, 30, 1, 0), 0);
        x.setSeed(1);
        due("11: sendForged(1, 1, 31, 3, 9)", x.sendForged(1, 1, 31, 3, 9), 0);
        due("11: not above distance 31", x.packetsAtDistance(31), 2);
        due("11: markCount(31, 1, 0)", x.markCount(31, 1, 0), 1);
        due("11: markCount(31, 3, 9)", x.markCount(31, 3, 9), 1);
        due("11: unmarkedCount()", x.unmarkedCount(), 0);

        x.clearMarks();
        x.setMarkingPercent(20);
        x.setSeed(1);
        due("11: sendForged(1, 2, 5, 0, 3)", x.sendForged(1, 2, 5, 0, 3), 1);
        due("11: the forged mark", x.markCount(7, 0, 3), 1);
        due("11: the mark of router 1", x.markCount(1, 3, 2), 1);
        due("11: five numbers drawn", x.setSeed(1), -112468174);
        x.setMarkingPercent(100);
        due("11: sendForged(1, 500, 0, 0, 0)", x.sendForged(1, 500, 0, 0, 0), 500);
    }

    private static void sendForgedErrors() {
        PacketTraceback x = twoRouters();
        due("11: sendForged(2, 0, 32, 4, 32), no router first", x.sendForged(2, 0, 32, 4, 32), -1);
        due("11: sendForged(-1, 1, 0, 0, 0)", x.sendForged(-1, 1, 0, 0, 0), -1);
        int[][] bad = {{0, 0, 0, 0}, {501, 0, 0, 0}, {1, -1, 0, 0}, {1, 32, 0, 0}, {1, 0, -1, 0},
            {1, 0, 4, 0}, {1, 0, 0, -1}, {1, 0, 0, 32}};
        for (int[] b : bad) {
            due("11: sendForged, out of range", x.sendForged(1, b[0], b[1], b[2], b[3]), -2);
        }
        for (int far : FAR) {
            due("11: sendForged(far, 1, 0, 0, 0)", x.sendForged(far, 1, 0, 0, 0), -1);
            due("11: sendForged(1, far, 0, 0, 0)", x.sendForged(1, far, 0, 0, 0), -2);
            due("11: sendForged(1, 1, far, 0, 0)", x.sendForged(1, 1, far, 0, 0), -2);
            due("11: sendForged(1, 1, 0, far, 0)", x.sendForged(1, 1, 0, far, 0), -2);
            due("11: sendForged(1, 1, 0, 0, far)", x.sendForged(1, 1, 0, 0, far), -2);
        }
        due("11: errors send nothing", x.clearMarks(), 0);
        due("11: errors draw nothing", x.setSeed(1), 1);
        x.setMarkingPercent(1);
        due("11: sendForged(1, 1, 31, 3, 31)", x.sendForged(1, 1, 31, 3, 31), 0);
    }

    /** Promise 12. */
    private static void packetsAtDistance() {
        PacketTraceback x = Forger.withGateway(17);
        for (int distance = 1; distance <= 31; distance++) {
            for (int times = 0; times < distance % 5; times++) {
                Forger.put(x, 17, distance, times, 7 * times);
            }
        }
        due("12: packetsAtDistance(0)", x.packetsAtDistance(0), 50);
        for (int distance = 1; distance <= 31; distance++) {
            due("12: packetsAtDistance", x.packetsAtDistance(distance), distance % 5);
        }
        due("12: packetsAtDistance(-1)", x.packetsAtDistance(-1), -2);
        due("12: packetsAtDistance(32)", x.packetsAtDistance(32), -2);
        for (int far : FAR) {
            due("12: packetsAtDistance(far)", x.packetsAtDistance(far), -2);
        }
    }

    /** Promise 13. */
    private static void unmarkedCount() {
        PacketTraceback x = twoRouters();
        x.setMarkingPercent(38);
        x.sendPackets(1, 1);
        due("13: unmarkedCount()", x.unmarkedCount(), 1);
        int marked = x.sendPackets(1, 400);
        due("13: unmarkedCount()", x.unmarkedCount(), 401 - marked);
        x.setMarkingPercent(1);
        x.sendForged(1, 400, 3, 0, 0);
        due("13: forged packets are marked", x.unmarkedCount(), 401 - marked);
    }

    /** Promise 14. */
    private static void markCount() {
        PacketTraceback x = Forger.withGateway(17);
        Forger.put(x, 17, 4, 2, 31);
        Forger.put(x, 17, 4, 2, 31);
        Forger.put(x, 17, 4, 2, 30);
        Forger.put(x, 17, 4, 3, 31);
        Forger.put(x, 17, 31, 3, 31);
        due("14: markCount(4, 2, 31)", x.markCount(4, 2, 31), 2);
        due("14: markCount(4, 2, 30)", x.markCount(4, 2, 30), 1);
        due("14: markCount(4, 3, 31)", x.markCount(4, 3, 31), 1);
        due("14: markCount(31, 3, 31)", x.markCount(31, 3, 31), 1);
        due("14: markCount(4, 1, 31)", x.markCount(4, 1, 31), 0);
        due("14: markCount(5, 2, 31)", x.markCount(5, 2, 31), 0);
        int[][] bad = {{-1, 0, 0}, {32, 0, 0}, {0, -1, 0}, {0, 4, 0}, {0, 0, -1}, {0, 0, 32}};
        for (int[] b : bad) {
            due("14: markCount, out of range", x.markCount(b[0], b[1], b[2]), -2);
        }
        for (int far : FAR) {
            due("14: markCount(far, 0, 0)", x.markCount(far, 0, 0), -2);
            due("14: markCount(0, far, 0)", x.markCount(0, far, 0), -2);
            due("14: markCount(0, 0, far)", x.markCount(0, 0, far), -2);
        }
    }

    /** Promise 15. */
    private static void fragmentCount() {
        PacketTraceback x = Forger.withGateway(17);
        for (int fragment = 0; fragment < 32; fragment++) {
            Forger.put(x, 17, 6, 1, fragment);
            due("15: fragmentCount(6, 1)", x.fragmentCount(6, 1), fragment + 1);
        }
        Forger.put(x, 17, 6, 1, 31);
        due("15: the same fragment again", x.fragmentCount(6, 1), 32);
        due("15: fragmentCount(0, 3)", x.fragmentCount(0, 3), 1);
        due("15: fragmentCount(6, 0)", x.fragmentCount(6, 0), 0);
        due("15: fragmentCount(7, 1)", x.fragmentCount(7, 1), 0);
        due("15: fragmentCount(31, 3)", x.fragmentCount(31, 3), 0);
        int[][] bad = {{-1, 0}, {32, 0}, {0, -1}, {0, 4}};
        for (int[] b : bad) {
            due("15: fragmentCount, out of range", x.fragmentCount(b[0], b[1]), -2);
        }
        for (int far : FAR) {
            due("15: fragmentCount(far, 0)", x.fragmentCount(far, 0), -2);
            due("15: fragmentCount(0, far)", x.fragmentCount(0, far), -2);
        }
    }

    /** Promise 16. */
    private static void greatestDistance() {
        PacketTraceback x = twoRouters();
        x.setMarkingPercent(38);
        x.sendPackets(1, 1);
        due("16: unmarked packets have no distance", x.greatestDistance(), -7);
        x = Forger.withGateway(17);
        due("16: greatestDistance()", x.greatestDistance(), 0);
        for (int distance = 1; distance <= 31; distance++) {
            Forger.put(x, 17, distance, distance % 4, distance);
            due("16: greatestDistance()", x.greatestDistance(), distance);
        }
        Forger.put(x, 17, 3, 0, 0);
        due("16: greatestDistance()", x.greatestDistance(), 31);
    }

    /** Promise 17. */
    private static void isPathComplete() {
        PacketTraceback x = Forger.withGateway(17);
        x.addRouter(0, 300);
        x.addRouter(1, 4000);
        due("17: isPathComplete(0)", x.isPathComplete(0), 1);
        Forger.putNode(x, 17, 2, 4000, 300);
        due("17: the parent's marks are missing", x.isPathComplete(2), 0);
        for (int offset = 0; offset < 4; offset++) {
            due("17: a mark is missing", x.isPathComplete(1), 0);
            Forger.put(x, 17, 1, offset, x.fragment(300, offset) ^ x.fragment(17, offset));
        }
        due("17: forged marks complete it too", x.isPathComplete(1), 1);
        due("17: isPathComplete(2)", x.isPathComplete(2), 1);
        due("17: isPathComplete(3)", x.isPathComplete(3), -1);
        due("17: isPathComplete(-1)", x.isPathComplete(-1), -1);
        for (int far : FAR) {
            due("17: isPathComplete(far)", x.isPathComplete(far), -1);
        }
        PacketTraceback y = new PacketTraceback();
        y.addRouter(0, 17);
        y.addRouter(0, 300);
        Forger.putNode(y, 17, 1, 300, 17);
        due("17: the gateway's marks are missing", y.isPathComplete(1), 0);
    }

    /** Promise 18. */
    private static void packetsNeeded() {
        PacketTraceback x = twoRouters();
        x.setMarkingPercent(100);
        due("18: packetsNeeded(0, 13)", x.packetsNeeded(0, 13), -7);
        due("18: packetsNeeded(0, 14)", x.packetsNeeded(0, 14), 14);
        due("18: packetsNeeded(0, 2000)", x.packetsNeeded(0, 2000), 14);
        due("18: packetsNeeded(1, 2000), no mark of router 1", x.packetsNeeded(1, 2000), -7);
        due("18: packetsNeeded(1, 1)", x.packetsNeeded(1, 1), -7);
        due("18: packetsNeeded(2, 0), no router first", x.packetsNeeded(2, 0), -1);
        due("18: packetsNeeded(-1, 1)", x.packetsNeeded(-1, 1), -1);
        due("18: packetsNeeded(1, 0)", x.packetsNeeded(1, 0), -2);
        due("18: packetsNeeded(1, 2001)", x.packetsNeeded(1, 2001), -2);
        for (int far : FAR) {
            due("18: packetsNeeded(far, 1)", x.packetsNeeded(far, 1), -1);
            due("18: packetsNeeded(0, far)", x.packetsNeeded(0, far), -2);
        }
        PacketTraceback y = twoRouters();
        y.addRouter(1, 4000);
        y.setMarkingPercent(30);
        int needed = y.packetsNeeded(2, 500);
        due("18: packetsNeeded(2, 500)", needed, 93);
        y.sendPackets(2, needed - 1);
        due("18: not complete a packet before", y.isPathComplete(2), 0);
        y.sendPackets(2, 1);
        due("18: complete with the last packet", y.isPathComplete(2), 1);
    }

    private static void packetsNeededChangesNothing() {
        PacketTraceback x = Forger.withGateway(17);
        x.addRouter(0, 300);
        x.setMarkingPercent(100);
        x.setSeed(1);
        due("18: recorded marks do not help", x.packetsNeeded(0, 2000), 14);
        due("18: the generator stays", x.setSeed(1), 1);
        due("18: NONE", x.packetsNeeded(1, 2000), -7);
        due("18: the generator stays after NONE", x.setSeed(5), 1);
        due("18: from another state", x.packetsNeeded(0, 1), -7);
        due("18: the marks stay", x.packetsAtDistance(0), 50);
        due("18: unmarkedCount()", x.unmarkedCount(), 0);
        due("18: clearMarks()", x.clearMarks(), 50);
        x.setSeed(1);
        due("18: no matter that they were cleared", x.packetsNeeded(0, 2000), 14);
        due("18: isPathComplete(0)", x.isPathComplete(0), 0);
    }

    /** Promises 19 to 23: numbers by distance, then parent, then address. */
    private static void reconstructOrder() {
        PacketTraceback x = Forger.withGateway(17);
        due("19: reconstruct()", x.reconstruct(), 1);
        Forger.putNode(x, 17, 1, 17, 17);
        Forger.putNode(x, 17, 2, 17, 17);
        int count = x.reconstruct();
        due("19: reconstruct()", count, 3);
        due("20: nodeCount()", x.nodeCount(), 3);
        for (int node = 0; node < 3; node++) {
            due("21: nodeAddress", x.nodeAddress(node), 17);
            due("22: nodeDistance", x.nodeDistance(node), node);
            due("23: nodeParent", x.nodeParent(node), node == 0 ? -7 : node - 1);
            due("24: nodeRouter", x.nodeRouter(node), node == 0 ? 0 : -7);
        }
        due("25: falseNodeCount()", x.falseNodeCount(), 2);
        for (int address : new int[] {4000, 300, 5, 4095, 0}) {
            Forger.putNode(x, 17, 1, address, 17);
        }
        int found = x.reconstruct();
        CHECKS.holds("19: six nodes of distance 1 and one below each", found >= 13);
        for (int node = 1; node < found; node++) {
            CHECKS.holds("19: node " + node + " is in order", key(x, node - 1) < key(x, node));
            due("23: the parent's distance", x.nodeDistance(x.nodeParent(node)), x.nodeDistance(node) - 1);
        }
        due("23: the last node's parent is the last of distance 1", x.nodeParent(found - 1), (found - 1) / 2);
    }

    private static int key(PacketTraceback x, int node) {
        return (x.nodeDistance(node) * 128 + Math.max(0, x.nodeParent(node))) * 4096 + x.nodeAddress(node);
    }

    private static void reconstructEndsAtGap() {
        PacketTraceback x = Forger.withGateway(17);
        Forger.putNode(x, 17, 1, 300, 17);
        Forger.putNode(x, 17, 3, 17, 17);
        due("19: nothing behind a distance without a node", x.reconstruct(), 2);
        for (int offset = 0; offset < 3; offset++) {
            Forger.put(x, 17, 2, offset, 0);
            due("19: three offsets are not enough", x.reconstruct(), 2);
        }
        Forger.put(x, 17, 2, 3, 0);
        due("19: the gap is closed", x.reconstruct(), 4);
        due("19: nodeAddress(3)", x.nodeAddress(3), 300);

        PacketTraceback y = new PacketTraceback();
        y.addRouter(0, 17);
        Forger.putNode(y, 17, 1, 300, 17);
        due("19: no node of distance 0", y.reconstruct(), 0);
    }

    private static void reconstructEndsAtDistance20() {
        PacketTraceback x = Forger.withGateway(17);
        for (int distance = 1; distance <= 21; distance++) {
            Forger.putNode(x, 17, distance, 0, 0);
            due("19: a row of nodes", x.reconstruct(), Math.min(distance, 20) + 1);
        }
        due("22: nodeDistance(20)", x.nodeDistance(20), 20);
        due("23: nodeParent(20)", x.nodeParent(20), 19);
        due("21: nodeAddress(20)", x.nodeAddress(20), 17);
        due("21: nodeAddress(21)", x.nodeAddress(21), -5);
        due("24: nodeRouter(20)", x.nodeRouter(20), -7);
        due("25: falseNodeCount()", x.falseNodeCount(), 20);
        due("26: nodeOf(0)", x.nodeOf(0), 0);
    }

    private static void putMany(PacketTraceback x, int distance, int[] counts) {
        for (int offset = 0; offset < 4; offset++) {
            for (int fragment = 0; fragment < counts[offset]; fragment++) {
                Forger.put(x, 17, distance, offset, fragment);
            }
        }
    }

    private static void reconstructCombinations() {
        int[][] fitting = {{8, 8, 8, 8}, {1, 32, 32, 4}, {32, 1, 4, 32}, {32, 32, 32, 0}};
        for (int[] counts : fitting) {
            PacketTraceback x = Forger.withGateway(17);
            putMany(x, 1, counts);
            CHECKS.holds("19: up to 4096 combinations are tried", x.reconstruct() >= 1);
        }
        int[][] tooMany = {{27, 19, 8, 1}, {9, 8, 8, 8}, {1, 8, 19, 27}, {30, 30, 1, 5}};
        for (int[] counts : tooMany) {
            PacketTraceback x = Forger.withGateway(17);
            putMany(x, 1, counts);
            due("19: more than 4096 combinations", x.reconstruct(), -6);
            due("20: nodeCount()", x.nodeCount(), 0);
        }
        PacketTraceback far = Forger.withGateway(17);
        putMany(far, 2, new int[] {9, 9, 9, 9});
        due("19: combinations that need not be tried", far.reconstruct(), 1);
        Forger.putNode(far, 17, 1, 17, 17);
        due("19: now they have to be tried", far.reconstruct(), -6);
        PacketTraceback last = Forger.withGateway(17);
        putMany(last, 21, new int[] {9, 9, 9, 9});
        for (int distance = 1; distance <= 20; distance++) {
            Forger.putNode(last, 17, distance, 0, 0);
        }
        due("19: distance 21 is never tried", last.reconstruct(), 21);
    }

    /** This run of marks leads to just 100 nodes, then to 101; found by search. */
    private static void reconstructNodeLimit() {
        Random random = new Random(878);
        PacketTraceback x = Forger.withGateway(17);
        NaiveTraceback naive = new NaiveTraceback();
        naive.addRouter(0, 17);
        naive.setMarkingPercent(100);
        naive.sendPackets(0, 50);
        naive.setMarkingPercent(1);
        naive.mostNodes = 1000;
        int before = 0;
        int found = 0;
        for (int i = 0; i <= 64; i++) {
            int distance = random.nextInt(2);
            int offset = random.nextInt(4);
            int fragment = random.nextInt(32);
            x.sendForged(0, 2, distance, offset, fragment);
            naive.sendForged(0, 2, distance, offset, fragment);
            before = found;
            found = naive.reconstruct();
            due("19: reconstruct()", x.reconstruct(), found <= 100 ? found : -6);
        }
        due("19: the last but one had 100 nodes", before, 100);
        due("19: the last had 101 nodes", found, 101);
        due("20: nodeCount()", x.nodeCount(), 100);
        due("21: nodeAddress(100)", x.nodeAddress(100), -5);
        CHECKS.holds("21: nodeAddress(99)", x.nodeAddress(99) >= 0);
        due("25: falseNodeCount()", x.falseNodeCount(), 99);
    }

    /** Promises 19 and 20: the nodes of the latest reconstruction that did not fail. */
    private static void failedReconstructChangesNothing() {
        PacketTraceback x = Forger.withGateway(17);
        x.addRouter(0, 300);
        Forger.putNode(x, 17, 1, 300, 17);
        due("19: reconstruct()", x.reconstruct(), 2);
        putMany(x, 1, new int[] {9, 9, 9, 9});
        due("19: reconstruct()", x.reconstruct(), -6);
        due("20: nodeCount()", x.nodeCount(), 2);
        due("21: nodeAddress(1)", x.nodeAddress(1), 300);
        due("24: nodeRouter(1)", x.nodeRouter(1), 1);
        due("19: reconstruct() again", x.reconstruct(), -6);
        due("20: nodeCount()", x.nodeCount(), 2);
        due("26: nodeOf(1)", x.nodeOf(1), 1);
        due("19: the marks stay", x.fragmentCount(1, 0) >= 9 ? 1 : 0, 1);
        x.clearMarks();
        x.setMarkingPercent(100);
        x.sendPackets(0, 100);
        due("19: later nodes replace the earlier", x.reconstruct(), 1);
        due("21: nodeAddress(1)", x.nodeAddress(1), -5);
        due("26: nodeOf(1)", x.nodeOf(1), -7);
    }

    /** Promise 20: before a reconstruction there are no nodes, whatever is recorded. */
    private static void nodesWithoutReconstruction() {
        PacketTraceback x = Forger.withGateway(17);
        due("20: nodeCount()", x.nodeCount(), 0);
        due("25: falseNodeCount()", x.falseNodeCount(), 0);
        due("26: nodeOf(0)", x.nodeOf(0), -7);
        due("21: nodeAddress(0)", x.nodeAddress(0), -5);
        x.reconstruct();
        Forger.putNode(x, 17, 1, 300, 17);
        due("20: new marks make no node", x.nodeCount(), 1);
    }

    /** Promises 21 to 24 and 26, wrong inputs. */
    private static void nodeFaults() {
        PacketTraceback x = Forger.withGateway(17);
        x.reconstruct();
        int[] wrong = {-7, -1, 1, 99, 100, Integer.MIN_VALUE, Integer.MAX_VALUE};
        for (int node : wrong) {
            due("21: nodeAddress(wrong)", x.nodeAddress(node), -5);
            due("22: nodeDistance(wrong)", x.nodeDistance(node), -5);
            due("23: nodeParent(wrong)", x.nodeParent(node), -5);
            due("24: nodeRouter(wrong)", x.nodeRouter(node), -5);
            due("26: nodeOf(wrong)", x.nodeOf(node), -1);
        }
        due("22: nodeDistance(0)", x.nodeDistance(0), 0);
        due("23: nodeParent(0)", x.nodeParent(0), -7);
        due("24: nodeRouter(0)", x.nodeRouter(0), 0);
    }

    /** Promises 24 to 26. */
    private static void trueAndFalseNodes() {
        PacketTraceback x = Forger.withGateway(17);
        x.addRouter(0, 300);
        x.addRouter(1, 4000);
        x.addRouter(0, 5);
        // 4000 stands at distance 1 here, as no router does, and 300 below it.
        Forger.putNode(x, 17, 1, 4000, 17);
        Forger.putNode(x, 17, 2, 300, 4000);
        due("19: reconstruct()", x.reconstruct(), 3);
        due("21: nodeAddress(1)", x.nodeAddress(1), 4000);
        due("21: nodeAddress(2)", x.nodeAddress(2), 300);
        due("24: nodeRouter(1)", x.nodeRouter(1), -7);
        due("24: nodeRouter(2)", x.nodeRouter(2), -7);
        due("25: falseNodeCount()", x.falseNodeCount(), 2);
        due("26: nodeOf(0)", x.nodeOf(0), 0);
        due("26: nodeOf(1)", x.nodeOf(1), -7);
        due("26: nodeOf(2)", x.nodeOf(2), -7);

        PacketTraceback y = Forger.withGateway(17);
        y.addRouter(0, 300);
        y.addRouter(1, 4000);
        Forger.putNode(y, 17, 1, 300, 17);
        Forger.putNode(y, 17, 2, 4000, 300);
        Forger.putNode(y, 17, 3, 17, 4000);
        due("19: reconstruct()", y.reconstruct(), 4);
        due("24: nodeRouter(1)", y.nodeRouter(1), 1);
        due("24: nodeRouter(2)", y.nodeRouter(2), 2);
        due("24: the gateway's address far from the victim", y.nodeRouter(3), -7);
        due("25: falseNodeCount()", y.falseNodeCount(), 1);
        due("26: nodeOf(2)", y.nodeOf(2), 2);
        due("26: nodeOf(3)", y.nodeOf(3), -1);
    }

    /** Promises 24 to 26: router 2 has this address and depth, but another parent. */
    private static void nodeBelowAnotherParent() {
        PacketTraceback x = Forger.withGateway(17);
        x.addRouter(0, 300);
        x.addRouter(1, 4000);
        x.addRouter(0, 5);
        Forger.putNode(x, 17, 1, 5, 17);
        Forger.putNode(x, 17, 2, 4000, 5);
        due("19: reconstruct()", x.reconstruct(), 3);
        due("21: nodeAddress(2)", x.nodeAddress(2), 4000);
        due("24: nodeRouter(1)", x.nodeRouter(1), 3);
        due("24: nodeRouter(2)", x.nodeRouter(2), -7);
        due("25: falseNodeCount()", x.falseNodeCount(), 1);
        due("26: nodeOf(2)", x.nodeOf(2), -7);
        due("26: nodeOf(3)", x.nodeOf(3), 1);
    }

    /** Promises 24 to 26 speak of the routers that there are, also of those added later. */
    private static void laterRoutersMakeNodesTrue() {
        PacketTraceback x = Forger.withGateway(17);
        Forger.putNode(x, 17, 1, 300, 17);
        due("19: reconstruct()", x.reconstruct(), 2);
        due("24: nodeRouter(1)", x.nodeRouter(1), -7);
        due("25: falseNodeCount()", x.falseNodeCount(), 1);
        due("26: nodeOf(1)", x.nodeOf(1), -1);
        x.addRouter(0, 300);
        due("24: nodeRouter(1)", x.nodeRouter(1), 1);
        due("25: falseNodeCount()", x.falseNodeCount(), 0);
        due("26: nodeOf(1)", x.nodeOf(1), 1);
    }
}
