/** The boundary cases of promises 19 to 26: the reconstruction and its nodes. */
public final class TreeBoundaryTest extends Boundary {
    private static final String[] OF_NODE = {"nodeAddress", "nodeDistance", "nodeParent", "nodeRouter"};

    public static void main(String[] args) throws IllegalAccessException {
        runTests(TreeBoundaryTest.class, 19, 26);
    }

    // These counts of fragments give 5, 11 and 20 nodes of distance 1; found by search.
    private static World fiveNodesAtDistance1() {
        return World.gateway().fragments(1, 4, 5, 3, 5);
    }

    private static World elevenNodesAtDistance1() {
        return World.gateway().fragments(1, 4, 7, 7, 7);
    }

    private static World twentyNodesAtDistance1() {
        return World.gateway().fragments(1, 6, 5, 16, 7);
    }

    /** 1 + 9 * 11 nodes. */
    private static World hundredNodes() {
        return elevenNodesAtDistance1().copies(2, 9);
    }

    /** Marks that make a reconstruction fail because of the combinations at distance 1. */
    private static World withTooManyCombinations(World world) {
        return world.forging().fragments(1, 9, 9, 9, 9);
    }

    // ---- Promise 19: reconstruct

    static void promise19NoRouters() {
        unchanged(World.empty(), 0, "reconstruct");
    }

    static void promise19NoMarks() {
        unchanged(World.lone(), 0, "reconstruct");
        unchanged(World.row(), 0, "reconstruct");
        unchanged(World.lone().forging().and("sendPackets", 0, 100), 0, "reconstruct");
    }

    /** From seed 1 the first 13 packets leave one offset out. */
    static void promise19OneOffsetMissingAtDistance0() {
        World world = World.lone().and("setMarkingPercent", 100);
        due(world.and("sendPackets", 0, 13), 0, "reconstruct");
        due(world.and("sendPackets", 0, 14), 1, "reconstruct");
        due(world.and("sendPackets", 0, 13).forging().copies(1, 3), 0, "reconstruct");
        due(world.and("sendPackets", 0, 14).forging().copies(1, 3), 4, "reconstruct");
    }

    /** "The reconstruction ends after the first distance at which no node is found." */
    static void promise19EndsAfterTheFirstDistanceWithoutANode() {
        for (int gap = 1; gap <= 20; gap++) {
            World world = World.gateway().copies(1, gap - 1).copies(gap + 1, 21);
            due(world, gap, "reconstruct");
            due(world.fragments(gap, 1, 1, 1, 0), gap, "reconstruct");
            due(world.fragments(gap, 0, 1, 1, 1), gap, "reconstruct");
        }
        World noAddress = World.gateway().copies(1, 1).mark(2, 0, 1).mark(2, 1, 0).mark(2, 2, 0).mark(2, 3, 0);
        due(noAddress.copies(3, 4), 2, "reconstruct");
    }

    /** "... or after distance 20." */
    static void promise19EndsAfterDistance20() {
        due(World.gateway().copies(1, 19), 20, "reconstruct");
        due(World.gateway().copies(1, 20), 21, "reconstruct");
        due(World.gateway().copies(1, 21), 21, "reconstruct");
        due(World.gateway().copies(1, 31), 21, "reconstruct");
    }

    static void promise19Exactly4096Combinations() {
        int[][] fitting = {{8, 8, 8, 8}, {32, 32, 4, 1}, {1, 32, 32, 4}, {4, 1, 32, 32}, {32, 4, 1, 32},
            {2, 4, 16, 32}};
        for (int[] counts : fitting) {
            World world = World.gateway().fragments(1, counts);
            due(world, world.askNaive("reconstruct"), "reconstruct");
            holds("a node is found", world.ask("reconstruct") > 1);
            World atEnd = World.gateway().copies(1, 19).fragments(20, counts);
            due(atEnd, atEnd.askNaive("reconstruct"), "reconstruct");
        }
    }

    /** The least product above 4096 that four numbers up to 32 have is 27 * 19 * 8 = 4104. */
    static void promise19MoreThan4096Combinations() {
        int[][] tooMany = {{27, 19, 8, 1}, {1, 27, 19, 8}, {8, 1, 27, 19}, {19, 8, 1, 27}, {9, 8, 8, 8},
            {8, 8, 8, 9}, {32, 32, 5, 1}, {32, 32, 32, 32}};
        for (int[] counts : tooMany) {
            refused(World.gateway().fragments(1, counts), -6, "reconstruct");
        }
        refused(World.gateway().copies(1, 19).fragments(20, 27, 19, 8, 1), -6, "reconstruct");
    }

    /** "It counts once, not for each parent." */
    static void promise19CombinationsDoNotCountForEachParent() {
        World twoParents = World.gateway().fragments(1, 1, 2, 1, 3);
        due(twoParents, 3, "reconstruct");
        World world = twoParents.fragments(2, 8, 8, 8, 8);
        int found = world.askNaive("reconstruct");
        holds("at most 100 nodes, " + found, found <= 100);
        due(world, found, "reconstruct");
        World built = world.and("reconstruct");
        due(built, 2, "nodeDistance", found - 1);
        due(built, 2, "nodeParent", found - 1);
        due(built, 1, "nodeParent", 3);
        World many = fiveNodesAtDistance1().fragments(2, 4, 7, 7, 7);
        due(many, many.askNaive("reconstruct"), "reconstruct");
        holds("five parents, 1372 combinations", many.ask("reconstruct") > 6);
    }

    /** The product is 0 if an offset has no fragment, however many the others have. */
    static void promise19NoCombinationsWithoutAnOffset() {
        int[][] none = {{0, 32, 32, 32}, {32, 0, 32, 32}, {32, 32, 0, 32}, {32, 32, 32, 0}};
        for (int[] counts : none) {
            due(World.gateway().fragments(1, counts), 1, "reconstruct");
        }
    }

    /** "For a distance at which combinations have to be tried." */
    static void promise19CombinationsThatNeedNotBeTried() {
        World behindGap = World.gateway().copies(1, 1).fragments(3, 9, 9, 9, 9);
        due(behindGap, 2, "reconstruct");
        refused(behindGap.copies(2, 2), -6, "reconstruct");
        due(World.gateway().copies(1, 20).fragments(21, 9, 9, 9, 9), 21, "reconstruct");
        due(World.gateway().copies(1, 20).fragments(31, 9, 9, 9, 9), 21, "reconstruct");
        due(World.lone().forging().fragments(1, 9, 9, 9, 9), 0, "reconstruct");
    }

    static void promise19HundredNodes() {
        due(elevenNodesAtDistance1(), 12, "reconstruct");
        due(hundredNodes(), 100, "reconstruct");
        World built = hundredNodes().and("reconstruct");
        due(built, 9, "nodeDistance", 99);
        due(built, 88, "nodeParent", 99);
        due(built, built.ask("nodeAddress", 11), "nodeAddress", 99);
    }

    static void promise19MoreThan100Nodes() {
        due(twentyNodesAtDistance1().copies(2, 4), 81, "reconstruct");
        World wide = twentyNodesAtDistance1().copies(2, 5);
        holds("101 nodes in six distances", wide.askNaive("reconstruct") == 101);
        refused(wide, -6, "reconstruct");
        due(fiveNodesAtDistance1().copies(2, 19), 96, "reconstruct");
        World deep = fiveNodesAtDistance1().copies(2, 20);
        holds("101 nodes in 21 distances", deep.askNaive("reconstruct") == 101);
        refused(deep, -6, "reconstruct");
        refused(hundredNodes().copies(10, 20), -6, "reconstruct");
    }

    /** A node more than 100, below the last of the hundred. */
    static void promise19TheHundredAndFirstNode() {
        int last = hundredNodes().and("reconstruct").ask("nodeAddress", 99);
        int added = 0;
        for (int address = 0; address < 4096 && added < 3; address += 97) {
            World world = hundredNodes().node(10, address, last);
            if (world.askNaive("reconstruct") == 101) {
                refused(world, -6, "reconstruct");
                refused(hundredNodes().and("reconstruct").node(10, address, last), -6, "reconstruct");
                added++;
            }
        }
        holds("three addresses lead to just one node more", added == 3);
    }

    /** "They replace those of an earlier reconstruction." */
    static void promise19NodesReplaceEarlierNodes() {
        World fewer = hundredNodes().and("reconstruct").and("clearMarks").and("setMarkingPercent", 100)
                .and("sendPackets", 0, 50);
        due(fewer, 100, "nodeCount");
        due(fewer, 1, "reconstruct");
        World few = fewer.and("reconstruct");
        due(few, 1, "nodeCount");
        due(few, 17, "nodeAddress", 0);
        due(few, 0, "falseNodeCount");
        for (String method : OF_NODE) {
            refused(few, -5, method, 1);
            refused(few, -5, method, 99);
        }
        World more = few.forging().copies(1, 3).and("reconstruct");
        due(more, 4, "nodeCount");
        due(more, 3, "nodeDistance", 3);
        World none = more.and("clearMarks").and("reconstruct");
        due(more.and("clearMarks"), 0, "reconstruct");
        due(none, 0, "nodeCount");
        due(none, -7, "nodeOf", 0);
        refused(none, -5, "nodeAddress", 0);
    }

    /** "An error changes nothing": neither the nodes nor the marks nor anything else. */
    static void promise19FailureChangesNothing() {
        refused(withTooManyCombinations(World.busy()), -6, "reconstruct");
        refused(withTooManyCombinations(hundredNodes().and("reconstruct")), -6, "reconstruct");
        World grown = twentyNodesAtDistance1().and("reconstruct").copies(2, 5);
        refused(grown, -6, "reconstruct");
        due(grown.and("reconstruct"), 21, "nodeCount");
        due(grown.and("reconstruct").and("reconstruct"), 21, "nodeCount");
    }

    static void promise19ReconstructionLeavesTheMarks() {
        World once = World.busy().and("reconstruct");
        unchanged(once, once.ask("nodeCount"), "reconstruct");
        for (int place = 0; place < 32 * 4 * 32; place++) {
            int want = World.busy().ask("markCount", place / 128, place / 32 % 4, place % 32);
            due(once, want, "markCount", place / 128, place / 32 % 4, place % 32);
        }
        due(once, -77, "setSeed", 0);
        due(once, 37, "setMarkingPercent", 1);
    }

    /** "By ascending distance, then by ascending number of the parent node, then by address." */
    static void promise19NodesAreInOrder() {
        World built = twentyNodesAtDistance1().copies(2, 3).and("reconstruct");
        for (int node = 2; node <= 20; node++) {
            holds("ascending addresses", built.ask("nodeAddress", node - 1) < built.ask("nodeAddress", node));
        }
        for (int node = 1; node <= 60; node++) {
            due(built, (node + 19) / 20, "nodeDistance", node);
            due(built, Math.max(0, node - 20), "nodeParent", node);
        }
    }

    /** The parent's number comes before the address, and the distance before both. */
    static void promise19ParentComesBeforeAddress() {
        World built = World.gateway().fragments(1, 4, 5, 3, 5).fragments(2, 4, 7, 7, 7).and("reconstruct");
        int descents = 0;
        for (int node = 1; node < built.ask("nodeCount"); node++) {
            int byDistance = built.ask("nodeDistance", node) - built.ask("nodeDistance", node - 1);
            int byParent = built.ask("nodeParent", node) - built.ask("nodeParent", node - 1);
            int byAddress = built.ask("nodeAddress", node) - built.ask("nodeAddress", node - 1);
            holds("node " + node + " comes behind node " + (node - 1), byDistance > 0
                    || byDistance == 0 && (byParent > 0 || byParent == 0 && byAddress > 0));
            descents += byDistance == 0 && byAddress < 0 ? 1 : 0;
        }
        holds("a parent's first node has a lower address than the last before", descents >= 2);
    }

    /** Whatever the address and its neighbours' fragments, each combination gives one node at most. */
    static void promise19EachNodeIsFoundOnce() {
        for (int block = 0; block < 4096; block += 128) {
            for (int address : new int[] {block, block + 3, block + 4, block + 124, block + 127}) {
                World world = World.gateway().node(1, address, 17).fragments(1, 0, 0, 0, 32);
                due(world, world.askNaive("reconstruct"), "reconstruct");
                holds(address + " is among the nodes", hasNode(world.and("reconstruct"), address));
            }
        }
    }

    private static boolean hasNode(World built, int address) {
        for (int node = 1; node < built.ask("nodeCount"); node++) {
            if (built.ask("nodeAddress", node) == address) {
                return true;
            }
        }
        return false;
    }

    // ---- Promise 20: nodeCount

    static void promise20NoReconstruction() {
        unchanged(World.empty(), 0, "nodeCount");
        unchanged(World.row(), 0, "nodeCount");
        unchanged(hundredNodes(), 0, "nodeCount");
    }

    static void promise20OnlyFailedReconstructions() {
        World failed = withTooManyCombinations(World.gateway()).and("reconstruct");
        unchanged(failed, 0, "nodeCount");
        due(failed, 0, "falseNodeCount");
        due(failed, -7, "nodeOf", 0);
        refused(failed, -5, "nodeAddress", 0);
        World tooLarge = twentyNodesAtDistance1().copies(2, 5).and("reconstruct").and("reconstruct");
        unchanged(tooLarge, 0, "nodeCount");
        refused(tooLarge, -5, "nodeAddress", 0);
    }

    /** "Of the latest reconstruction that did not fail." */
    static void promise20LatestThatDidNotFail() {
        World two = World.gateway().and("reconstruct").copies(1, 1).and("reconstruct");
        due(two, 2, "nodeCount");
        World failed = withTooManyCombinations(two).and("reconstruct").and("reconstruct");
        unchanged(failed, 2, "nodeCount");
        due(failed, 1, "nodeDistance", 1);
        World none = failed.and("clearMarks").and("reconstruct");
        unchanged(none, 0, "nodeCount");
        World again = none.and("setMarkingPercent", 100).and("sendPackets", 0, 50).and("reconstruct");
        due(again, 1, "nodeCount");
    }

    static void promise20UpTo100() {
        unchanged(hundredNodes().and("reconstruct"), 100, "nodeCount");
        due(hundredNodes().and("reconstruct").copies(10, 10).and("reconstruct"), 100, "nodeCount");
    }

    // ---- Promise 21: nodeAddress

    /** What promises 21 to 24 say of nodes that are not there. */
    private static void checkNodeNumbers(String method) {
        refused(World.empty(), -5, method, 0);
        refused(World.empty(), -5, method, -1);
        refused(hundredNodes(), -5, method, 0);
        refusedOutside(World.gateway().and("reconstruct"), -5, new Call(method, 0), 0, 0, 0);
        refusedOutside(World.full(), -5, new Call(method, 0), 0, 0, 19);
        refusedOutside(hundredNodes().and("reconstruct"), -5, new Call(method, 0), 0, 0, 99);
    }

    static void promise21NodeExists() {
        checkNodeNumbers("nodeAddress");
        unchanged(World.full(), 100, "nodeAddress", 0);
        unchanged(World.full(), 100 + 37 * 19, "nodeAddress", 19);
    }

    static void promise21AddressFrom0To4095() {
        for (int address : new int[] {0, 1, 4094, 4095}) {
            World gateway = World.empty().and("addRouter", 0, address).and("setMarkingPercent", 100)
                    .and("sendPackets", 0, 50);
            due(gateway.and("reconstruct"), address, "nodeAddress", 0);
            due(World.gateway().node(1, address, 17).and("reconstruct"), address, "nodeAddress", 1);
        }
    }

    // ---- Promise 22: nodeDistance

    static void promise22NodeExists() {
        checkNodeNumbers("nodeDistance");
        unchanged(World.full(), 0, "nodeDistance", 0);
        unchanged(World.full(), 19, "nodeDistance", 19);
    }

    static void promise22DistanceFrom0To20() {
        World built = World.gateway().copies(1, 31).and("reconstruct");
        for (int node = 0; node <= 20; node++) {
            due(built, node, "nodeDistance", node);
        }
        refused(built, -5, "nodeDistance", 21);
    }

    // ---- Promise 23: nodeParent

    static void promise23NodeExists() {
        checkNodeNumbers("nodeParent");
        unchanged(World.full(), 18, "nodeParent", 19);
    }

    static void promise23NoneAtDistance0() {
        unchanged(World.gateway().and("reconstruct"), -7, "nodeParent", 0);
        unchanged(World.full(), -7, "nodeParent", 0);
        due(World.full(), 0, "nodeParent", 1);
        due(World.full(), 1, "nodeParent", 2);
    }

    /** NO_SUCH_NODE stands before NONE. */
    static void promise23NoSuchNodeComesBeforeNone() {
        refused(World.lone(), -5, "nodeParent", 0);
        refused(World.gateway().and("reconstruct"), -5, "nodeParent", -7);
    }

    // ---- Promise 24: nodeRouter

    static void promise24NodeExists() {
        checkNodeNumbers("nodeRouter");
    }

    static void promise24TrueNodesFromRouter0To19() {
        for (int node = 0; node < 20; node++) {
            due(World.full(), node, "nodeRouter", node);
        }
        unchanged(World.full(), 19, "nodeRouter", 19);
    }

    /** "NONE if it is false": no router has its address. */
    static void promise24NoneWithoutARouterOfThatAddress() {
        World built = World.gateway().node(1, 300, 17).and("reconstruct");
        due(built, 300, "nodeAddress", 1);
        unchanged(built, -7, "nodeRouter", 1);
        // The rows for routers that are not there yet must not count as the address 0.
        World zero = World.gateway().node(1, 0, 17).and("reconstruct");
        due(zero, 0, "nodeAddress", 1);
        unchanged(zero, -7, "nodeRouter", 1);
    }

    /** A router has the address, but its way to router 0 is shorter than the node's. */
    static void promise24NoneIfTheNodeIsFartherThanTheRouter() {
        World built = World.gateway().copies(1, 20).and("reconstruct");
        due(built, 0, "nodeRouter", 0);
        for (int node = 1; node <= 20; node++) {
            due(built, 17, "nodeAddress", node);
            due(built, -7, "nodeRouter", node);
        }
        World oneAbove = World.gateway().and("addRouter", 0, 300).copies(1, 1).node(2, 300, 17).and("reconstruct");
        due(oneAbove, 300, "nodeAddress", 2);
        due(oneAbove, -7, "nodeRouter", 2);
    }

    /** The way of router 0 ends at once, also where the node above has the address 0. */
    static void promise24NoneBelowAGatewayOfAddress0() {
        World world = World.empty().and("addRouter", 0, 0).and("setMarkingPercent", 100)
                .and("sendPackets", 0, 50).forging();
        for (int offset = 0; offset < 4; offset++) {
            // Router 0 joins its own fragment, so that 0 is recorded at distance 1.
            world = world.and("sendForged", 0, 1, 0, offset, NaiveTraceback.fragments(0)[offset]);
        }
        World built = world.copies(2, 3).and("reconstruct");
        due(built, 4, "nodeCount");
        due(built, 0, "nodeRouter", 0);
        for (int node = 1; node < 4; node++) {
            due(built, 0, "nodeAddress", node);
            unchanged(built, -7, "nodeRouter", node);
        }
        due(built, 3, "falseNodeCount");
        due(built, 0, "nodeOf", 0);
    }

    /** A router has the address, but its way to router 0 is longer than the node's. */
    static void promise24NoneIfTheNodeIsNearerThanTheRouter() {
        World built = World.gateway().and("addRouter", 0, 300).and("addRouter", 1, 4000).node(1, 4000, 17)
                .and("reconstruct");
        due(built, 4000, "nodeAddress", 1);
        due(built, -7, "nodeRouter", 1);
    }

    /** As far as the router and with its address, but below the node of another router. */
    static void promise24NoneBelowAnotherParent() {
        World built = World.gateway().and("addRouter", 0, 300).and("addRouter", 0, 5).and("addRouter", 1, 4000)
                .node(1, 5, 17).node(2, 4000, 5).and("reconstruct");
        due(built, 2, "nodeRouter", 1);
        due(built, 4000, "nodeAddress", 2);
        unchanged(built, -7, "nodeRouter", 2);
    }

    /** A true node can't stand below a false one, even with its router's address and parent. */
    static void promise24NoneBelowAFalseNode() {
        World built = World.gateway().and("addRouter", 0, 300).and("addRouter", 1, 4000)
                .copies(1, 1).node(2, 300, 17).node(3, 4000, 300).and("reconstruct");
        due(built, 4, "nodeCount");
        due(built, 4000, "nodeAddress", 3);
        due(built, -7, "nodeRouter", 3);
    }

    static void promise24NoSuchNodeComesBeforeNone() {
        refused(World.lone(), -5, "nodeRouter", 0);
        refused(World.gateway().copies(1, 1).and("reconstruct"), -5, "nodeRouter", 2);
    }

    // ---- Promise 25: falseNodeCount

    static void promise25NoNodes() {
        unchanged(World.empty(), 0, "falseNodeCount");
        unchanged(hundredNodes(), 0, "falseNodeCount");
        due(World.row().and("reconstruct"), 0, "falseNodeCount");
    }

    static void promise25NoFalseNodes() {
        unchanged(World.gateway().and("reconstruct"), 0, "falseNodeCount");
        unchanged(World.full(), 0, "falseNodeCount");
    }

    /** The address 0 is an address like others, not a sign of a missing node or router. */
    static void promise25Address0() {
        World gateway = World.empty().and("addRouter", 0, 0).and("setMarkingPercent", 100);
        unchanged(gateway, 0, "falseNodeCount");
        due(gateway.and("reconstruct"), 0, "falseNodeCount");
        unchanged(gateway.and("sendPackets", 0, 50).and("reconstruct"), 0, "falseNodeCount");
        World built = World.gateway().node(1, 0, 17).and("reconstruct");
        due(built, 1, "falseNodeCount");
        due(built.and("addRouter", 0, 0), 0, "falseNodeCount");
    }

    static void promise25UpTo99FalseNodes() {
        unchanged(hundredNodes().and("reconstruct"), 99, "falseNodeCount");
        World one = World.gateway().copies(1, 1).and("reconstruct");
        due(one, 1, "falseNodeCount");
        due(World.gateway().copies(1, 31).and("reconstruct"), 20, "falseNodeCount");
    }

    static void promise25OfTheLatestThatDidNotFail() {
        World built = World.gateway().copies(1, 2).and("reconstruct");
        due(withTooManyCombinations(built).and("reconstruct"), 2, "falseNodeCount");
        due(built.and("clearMarks"), 2, "falseNodeCount");
        due(built.and("clearMarks").and("reconstruct"), 0, "falseNodeCount");
    }

    // ---- Promise 26: nodeOf

    static void promise26NoRouters() {
        refused(World.empty(), -1, "nodeOf", 0);
        refused(World.empty(), -1, "nodeOf", -1);
    }

    static void promise26RouterExists() {
        unchanged(World.full(), 0, "nodeOf", 0);
        unchanged(World.full(), 19, "nodeOf", 19);
        refusedOutside(World.busy(), -1, new Call("nodeOf", 0), 0, 0, 3);
        refusedOutside(World.full(), -1, new Call("nodeOf", 0), 0, 0, 19);
    }

    /** More nodes than routers: the number of a node is no number of a router. */
    static void promise26NoSuchRouterComesBeforeNone() {
        refused(hundredNodes().and("reconstruct"), -1, "nodeOf", 1);
        refused(hundredNodes().and("reconstruct"), -1, "nodeOf", 99);
        refused(World.lone(), -1, "nodeOf", 1);
    }

    static void promise26NoneWithoutAReconstruction() {
        unchanged(World.gateway(), -7, "nodeOf", 0);
        for (int router = 0; router < 20; router++) {
            due(World.row(), -7, "nodeOf", router);
            due(World.row().and("reconstruct"), -7, "nodeOf", router);
        }
    }

    /** A node with the router's address is not enough. */
    static void promise26NoneIfOnlyFalseNodesHaveItsAddress() {
        World built = World.gateway().and("addRouter", 0, 300).and("addRouter", 1, 4000).node(1, 4000, 17)
                .and("reconstruct");
        due(built, 4000, "nodeAddress", 1);
        unchanged(built, -7, "nodeOf", 2);
        unchanged(built, -7, "nodeOf", 1);
        due(built, 0, "nodeOf", 0);
    }

    /** The true node is found among false ones with the same address. */
    static void promise26TheTrueNodeOfSeveral() {
        World built = World.gateway().and("addRouter", 0, 300).and("addRouter", 1, 4000)
                .node(1, 300, 17).node(1, 4000, 17).node(2, 4000, 300).and("reconstruct");
        int node = built.ask("nodeOf", 2);
        due(built, 2, "nodeRouter", node);
        due(built, 2, "nodeDistance", node);
        due(built, 4000, "nodeAddress", node);
        due(built, built.ask("nodeOf", 1), "nodeParent", node);
    }
}
