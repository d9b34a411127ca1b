/** The boundary cases of promises 7 to 11: the percentage, the generator and the packets. */
public final class PacketBoundaryTest extends Boundary {
    public static void main(String[] args) throws IllegalAccessException {
        runTests(PacketBoundaryTest.class, 7, 11);
    }

    // ---- Promise 7: setMarkingPercent

    static void promise07PercentFrom1To100() {
        due(World.empty(), 20, "setMarkingPercent", 1);
        due(World.empty(), 20, "setMarkingPercent", 100);
        due(World.empty().and("setMarkingPercent", 1), 1, "setMarkingPercent", 100);
        due(World.empty().and("setMarkingPercent", 100), 100, "setMarkingPercent", 1);
        refusedOutside(World.empty(), -2, new Call("setMarkingPercent", 1), 0, 1, 100);
        refusedOutside(World.busy(), -2, new Call("setMarkingPercent", 1), 0, 1, 100);
    }

    static void promise07RefusedPercentageIsNotThePrevious() {
        due(World.empty().and("setMarkingPercent", 0), 20, "setMarkingPercent", 5);
        due(World.busy().and("setMarkingPercent", 101), 37, "setMarkingPercent", 5);
    }

    /** "If x % 100 is less than the marking percentage": at 1 only 0 is, at 100 each number. */
    static void promise07MarksBelowThePercentageOnly() {
        for (int percent = 1; percent <= 100; percent++) {
            World world = World.lone().and("setMarkingPercent", percent);
            due(world.and("setSeed", Draws.seedWith(0)), 1, "sendPackets", 0, 1);
            due(world.and("setSeed", Draws.seedWith(percent - 1)), 1, "sendPackets", 0, 1);
            due(world.and("setSeed", Draws.seedWith(99)), percent == 100 ? 1 : 0, "sendPackets", 0, 1);
            if (percent < 100) {
                due(world.and("setSeed", Draws.seedWith(percent)), 0, "sendPackets", 0, 1);
            }
        }
    }

    // ---- Promise 8: setSeed

    private static final int[] SEEDS = {Integer.MIN_VALUE, Integer.MIN_VALUE + 1, -65536, -2, -1, 0, 1, 2,
        65535, 65536, 1103515245, Integer.MAX_VALUE - 1, Integer.MAX_VALUE};

    static void promise08AnyNumberIsASeed() {
        for (int seed : SEEDS) {
            due(World.empty(), 1, "setSeed", seed);
            due(World.empty().and("setSeed", seed), seed, "setSeed", 1);
            due(World.busy(), -77, "setSeed", seed);
        }
    }

    /** "As a Java int, with overflow." */
    static void promise08StateWrapsAround() {
        due(World.lone().and("setMarkingPercent", 1).and("setSeed", 2).and("sendPackets", 0, 1),
                -2087924461, "setSeed", 0);
        for (int seed : SEEDS) {
            boolean marks = Draws.firstRest(seed) == 0;
            int once = Draws.next(seed);
            World world = World.lone().and("setMarkingPercent", 1).and("setSeed", seed);
            due(world.and("sendPackets", 0, 1), marks ? Draws.next(once) : once, "setSeed", 0);
        }
    }

    /** "(state >>> 16) & 32767": the number has no sign, and the state's highest bit is left out. */
    static void promise08NumberIsFrom0To32767() {
        int negativeStates = 0;
        for (int seed : SEEDS) {
            int rest = Draws.firstRest(seed);
            negativeStates += Draws.next(seed) < 0 ? 1 : 0;
            World world = World.lone().and("setSeed", seed);
            due(world.and("setMarkingPercent", rest + 1), 1, "sendPackets", 0, 1);
            if (rest > 0) {
                due(world.and("setMarkingPercent", rest), 0, "sendPackets", 0, 1);
            }
        }
        holds("there were negative states", negativeStates > 2 && negativeStates < SEEDS.length - 2);
    }

    /** "Offset y % 4" of the second number, for states of either sign. */
    static void promise08OffsetFrom0To3() {
        for (int seed : SEEDS) {
            int offset = Draws.number(Draws.next(Draws.next(seed))) % 4;
            World world = World.lone().and("setMarkingPercent", 100).and("setSeed", seed).and("sendPackets", 0, 1);
            due(world, 1, "markCount", 0, offset, NaiveTraceback.fragments(17)[offset]);
        }
    }

    static void promise08PreviousStateNotPreviousSeed() {
        World world = World.lone().and("setMarkingPercent", 100).and("setSeed", 7).and("sendPackets", 0, 1);
        due(world, Draws.next(Draws.next(7)), "setSeed", 7);
    }

    // ---- Promise 9: clearMarks

    static void promise09NothingReceived() {
        unchanged(World.empty(), 0, "clearMarks");
        unchanged(World.lone(), 0, "clearMarks");
        due(World.lone().and("sendPackets", 1, 5).and("sendPackets", 0, 501), 0, "clearMarks");
    }

    static void promise09CountsPacketsWithAndWithoutMark() {
        World unmarked = World.lone().and("setSeed", Draws.seedWith(99)).and("sendPackets", 0, 1);
        due(unmarked, 1, "unmarkedCount");
        due(unmarked, 1, "clearMarks");
        due(World.lone().and("setMarkingPercent", 100).and("sendPackets", 0, 500), 500, "clearMarks");
        due(World.lone().and("sendForged", 0, 500, 31, 3, 31), 500, "clearMarks");
        due(unmarked.and("sendForged", 0, 2, 31, 3, 31).and("sendPackets", 0, 500), 503, "clearMarks");
    }

    static void promise09CountsAnewAfterClearing() {
        World cleared = World.busy().and("clearMarks");
        unchanged(cleared, 0, "clearMarks");
        due(cleared.and("sendPackets", 0, 1), 1, "clearMarks");
    }

    static void promise09ForgetsAllMarksAndCounts() {
        World cleared = World.gateway().mark(31, 3, 31).mark(1, 0, 0).and("sendPackets", 0, 9).and("clearMarks");
        due(cleared, 0, "unmarkedCount");
        due(cleared, -7, "greatestDistance");
        due(cleared, 0, "isPathComplete", 0);
        due(cleared, 0, "reconstruct");
        for (int distance : new int[] {0, 1, 31}) {
            due(cleared, 0, "packetsAtDistance", distance);
            for (int offset = 0; offset < 4; offset++) {
                due(cleared, 0, "fragmentCount", distance, offset);
                for (int fragment = 0; fragment < 32; fragment++) {
                    due(cleared, 0, "markCount", distance, offset, fragment);
                }
            }
        }
    }

    static void promise09TheNodesStay() {
        World before = World.full();
        World after = before.and("clearMarks");
        due(after, 20, "nodeCount");
        for (int node = 0; node <= 20; node++) {
            for (String method : new String[] {"nodeAddress", "nodeDistance", "nodeParent", "nodeRouter"}) {
                due(after, before.ask(method, node), method, node);
            }
        }
        due(after, 19, "nodeOf", 19);
    }

    static void promise09RoutersPercentageAndGeneratorStay() {
        World cleared = World.busy().and("clearMarks");
        due(cleared, 4, "routerCount");
        due(cleared, 37, "setMarkingPercent", 1);
        due(cleared, -77, "setSeed", 1);
    }

    // ---- Promise 10: sendPackets

    static void promise10NoRouters() {
        refused(World.empty(), -1, "sendPackets", 0, 1);
        refused(World.empty(), -1, "sendPackets", 0, 0);
    }

    static void promise10RouterExists() {
        due(World.busy().and("clearMarks").and("sendPackets", 0, 2), 2, "clearMarks");
        due(World.busy().and("clearMarks").and("sendPackets", 3, 2), 2, "clearMarks");
        refusedOutside(World.busy(), -1, new Call("sendPackets", 0, 1), 0, 0, 3);
        refusedOutside(World.full(), -1, new Call("sendPackets", 0, 1), 0, 0, 19);
    }

    static void promise10CountFrom1To500() {
        World world = World.lone().and("setMarkingPercent", 100);
        due(world, 1, "sendPackets", 0, 1);
        due(world, 500, "sendPackets", 0, 500);
        due(world.and("sendPackets", 0, 1), 1, "clearMarks");
        due(world.and("sendPackets", 0, 500), 500, "clearMarks");
        refusedOutside(World.busy(), -2, new Call("sendPackets", 2, 1), 1, 1, 500);
        refusedOutside(World.lone(), -2, new Call("sendPackets", 0, 1), 1, 1, 500);
    }

    static void promise10NoSuchRouterComesFirst() {
        refused(World.busy(), -1, "sendPackets", 4, 0);
        refused(World.busy(), -1, "sendPackets", -1, 501);
    }

    /** How many of them arrived with a mark: none of them, or all. */
    static void promise10NoneOrAllArriveWithAMark() {
        due(World.lone().forging(), 0, "sendPackets", 0, 500);
        due(World.lone().forging().and("sendPackets", 0, 500), 500, "unmarkedCount");
        World row = World.row().and("setMarkingPercent", 100);
        due(row, 500, "sendPackets", 19, 500);
        due(row.and("sendPackets", 19, 500), 0, "unmarkedCount");
        due(row.and("sendPackets", 19, 500), 0, "greatestDistance");
    }

    /** From router 19, at the end of a row, marks come from all of the distances 0 to 19. */
    static void promise10DistancesUpTo19() {
        for (int distance = 0; distance <= 19; distance++) {
            holds("packets at distance " + distance, World.full().ask("packetsAtDistance", distance) > 0);
        }
        due(World.full(), 19, "greatestDistance");
        due(World.full().and("clearMarks").times(9, "sendPackets", 18, 500), 18, "greatestDistance");
    }

    // ---- Promise 11: sendForged

    static void promise11NoRouters() {
        refused(World.empty(), -1, "sendForged", 0, 1, 0, 0, 0);
        refused(World.empty(), -1, "sendForged", 0, 0, 32, 4, 32);
    }

    static void promise11RouterExists() {
        due(World.busy().and("clearMarks").and("sendForged", 0, 2, 0, 0, 0), 2, "clearMarks");
        due(World.busy().and("clearMarks").and("sendForged", 3, 2, 0, 0, 0), 2, "clearMarks");
        refusedOutside(World.busy(), -1, new Call("sendForged", 0, 1, 0, 0, 0), 0, 0, 3);
        refusedOutside(World.full(), -1, new Call("sendForged", 0, 1, 0, 0, 0), 0, 0, 19);
    }

    static void promise11CountFrom1To500() {
        World world = World.lone().and("setMarkingPercent", 100);
        due(world, 1, "sendForged", 0, 1, 0, 0, 0);
        due(world, 500, "sendForged", 0, 500, 0, 0, 0);
        due(world.and("sendForged", 0, 500, 0, 0, 0), 500, "clearMarks");
        refusedOutside(World.busy(), -2, new Call("sendForged", 2, 1, 0, 0, 0), 1, 1, 500);
    }

    static void promise11DistanceFrom0To31() {
        World world = World.lone().forging();
        due(world.and("sendForged", 0, 1, 0, 0, 0), 1, "packetsAtDistance", 1);
        due(world.and("sendForged", 0, 1, 31, 0, 0), 1, "packetsAtDistance", 31);
        refusedOutside(World.busy(), -2, new Call("sendForged", 2, 1, 0, 0, 0), 2, 0, 31);
    }

    static void promise11OffsetFrom0To3() {
        World world = World.lone().forging();
        due(world.and("sendForged", 0, 1, 5, 0, 9), 1, "markCount", 6, 0, 9);
        due(world.and("sendForged", 0, 1, 5, 3, 9), 1, "markCount", 6, 3, 9);
        refusedOutside(World.busy(), -2, new Call("sendForged", 2, 1, 0, 0, 0), 3, 0, 3);
    }

    static void promise11FragmentFrom0To31() {
        World world = World.lone().forging();
        due(world.and("sendForged", 0, 1, 5, 1, 0), 1, "markCount", 6, 1, 0);
        due(world.and("sendForged", 0, 1, 5, 1, 31), 1, "markCount", 6, 1, 31);
        refusedOutside(World.busy(), -2, new Call("sendForged", 2, 1, 0, 0, 0), 4, 0, 31);
    }

    static void promise11NoSuchRouterComesFirst() {
        refused(World.busy(), -1, "sendForged", 4, 0, 0, 0, 0);
        refused(World.busy(), -1, "sendForged", 4, 1, 32, 0, 0);
        refused(World.busy(), -1, "sendForged", -1, 1, 0, 4, 0);
        refused(World.busy(), -1, "sendForged", -1, 1, 0, 0, 32);
    }

    /** "The distance grows by 1, but not above 31", however many routers follow. */
    static void promise11DistanceDoesNotGrowAbove31() {
        for (int distance = 0; distance <= 31; distance++) {
            due(World.lone().forging().and("sendForged", 0, 1, distance, 2, 9), 1,
                    "packetsAtDistance", Math.min(31, distance + 1));
            due(World.row().forging().and("sendForged", 19, 1, distance, 2, 9), 1,
                    "packetsAtDistance", Math.min(31, distance + 20));
        }
        World row = World.row().forging().and("sendForged", 19, 40, 31, 3, 31);
        due(row, 40, "markCount", 31, 3, 31);
        due(row, 0, "packetsAtDistance", 0);
    }

    /** "If the distance is 0, the fragment becomes the fragment XOR ...": the first router's alone. */
    static void promise11OnlyDistance0IsJoinedWithAWord() {
        World row = World.row().forging();
        for (int offset = 0; offset < 4; offset++) {
            int joined = NaiveTraceback.fragments(100 + 37 * 19)[offset];
            due(row.and("sendForged", 19, 1, 0, offset, 31), 1, "markCount", 20, offset, 31 ^ joined);
            due(row.and("sendForged", 19, 1, 0, offset, joined), 1, "markCount", 20, offset, 0);
            due(row.and("sendForged", 19, 1, 1, offset, 31), 1, "markCount", 21, offset, 31);
            due(row.and("sendForged", 19, 1, 31, offset, 31), 1, "markCount", 31, offset, 31);
        }
    }

    /** How many of them arrived with a mark that a router had made: none of them, or all. */
    static void promise11NoneOrAllMarkedByARouter() {
        due(World.lone().forging(), 0, "sendForged", 0, 500, 7, 0, 0);
        World row = World.row().and("setMarkingPercent", 100);
        due(row, 500, "sendForged", 19, 500, 7, 0, 0);
        due(row.and("sendForged", 19, 500, 7, 0, 0), 500, "packetsAtDistance", 0);
        due(World.lone().forging().and("sendForged", 0, 500, 7, 0, 0), 0, "unmarkedCount");
    }
}
