import java.util.List;

/** The boundary cases of promises 1 to 6: a new object, the routers, digests and fragments. */
public final class NetworkBoundaryTest extends Boundary {
    public static void main(String[] args) throws IllegalAccessException {
        runTests(NetworkBoundaryTest.class, 1, 6);
    }

    /** An object with this many routers, each the parent of the next, with addresses from 50 up. */
    private static World chain(int routers) {
        World world = World.empty();
        for (int router = 0; router < routers; router++) {
            world = world.and("addRouter", router - 1, 50 + router);
        }
        return world;
    }

    // ---- Promise 1: a new object

    static void promise01NoRouters() {
        World world = World.empty();
        due(world, 0, "routerCount");
        refused(world, -1, "depth", 0);
        refused(world, -1, "sendPackets", 0, 1);
        refused(world, -1, "sendForged", 0, 1, 0, 0, 0);
        refused(world, -1, "isPathComplete", 0);
        refused(world, -1, "packetsNeeded", 0, 1);
        refused(world, -1, "nodeOf", 0);
    }

    static void promise01NoMarks() {
        World world = World.empty();
        due(world, 0, "clearMarks");
        due(world, 0, "unmarkedCount");
        due(world, -7, "greatestDistance");
        for (int distance = 0; distance < 32; distance++) {
            due(world, 0, "packetsAtDistance", distance);
            for (int offset = 0; offset < 4; offset++) {
                due(world, 0, "fragmentCount", distance, offset);
                due(world, 0, "markCount", distance, offset, 0);
                due(world, 0, "markCount", distance, offset, 31);
            }
        }
    }

    static void promise01NoNodes() {
        World world = World.empty();
        due(world, 0, "nodeCount");
        due(world, 0, "falseNodeCount");
        for (String method : new String[] {"nodeAddress", "nodeDistance", "nodeParent", "nodeRouter"}) {
            refused(world, -5, method, 0);
        }
    }

    static void promise01PercentageIs20() {
        due(World.empty(), 20, "setMarkingPercent", 50);
        due(World.lone().and("setSeed", Draws.seedWith(19)), 1, "sendPackets", 0, 1);
        due(World.lone().and("setSeed", Draws.seedWith(20)), 0, "sendPackets", 0, 1);
    }

    static void promise01SeedIs1() {
        due(World.empty(), 1, "setSeed", 50);
        same("the seed of a new object is 1", World.lone(), World.lone().and("setSeed", 1));
    }

    static void promise01ObjectsShareNothing() {
        List<Integer> before = World.empty().and("routerCount").seen();
        PacketTraceback busy = World.busy().make();
        holds("a new object beside a busy one", World.empty().and("nodeCount").seen().equals(before));
        holds("the busy one is still busy", busy.routerCount() == 4 && busy.nodeCount() > 4
                && busy.unmarkedCount() > 0 && busy.setSeed(0) == -77 && busy.setMarkingPercent(1) == 37);
    }

    /** "An object is used for at most 512 calls after it has been made." */
    static void promise01AnObjectServes512Calls() {
        World sending = World.lone().and("setMarkingPercent", 100).times(509, "sendPackets", 0, 500);
        holds("511 calls before the question", sending.size() == 511);
        due(sending, 254500, "clearMarks");
        due(sending, 254500, "packetsAtDistance", 0);
        due(sending, 500, "sendPackets", 0, 500);
        int marks = 0;
        for (int offset = 0; offset < 4; offset++) {
            marks += sending.ask("markCount", 0, offset, NaiveTraceback.fragments(17)[offset]);
        }
        holds("the counts of marks add up to 254500", marks == 254500);
        World refusing = World.empty().times(511, "addRouter", 0, 4096);
        due(refusing, 0, "addRouter", 0, 4095);
        World searching = World.full();
        due(searching.times(511 - searching.size(), "reconstruct"), 20, "reconstruct");
        World setting = World.empty().times(511, "setSeed", Integer.MIN_VALUE);
        due(setting, Integer.MIN_VALUE, "setSeed", 0);
    }

    /** What later calls answer is free, but they end and do not throw. */
    static void promise01LaterCallsEnd() {
        PacketTraceback x = World.full().make();
        for (int call = 0; call < 2000; call++) {
            x.sendPackets(call % 20, 500);
            x.sendForged(call % 20, 500, call % 32, call % 4, call % 32);
            x.addRouter(19, call % 4096);
        }
        x.reconstruct();
        x.clearMarks();
        holds("all calls came back", true);
    }

    // ---- Promise 2: addRouter

    static void promise02ParentIsIgnoredForRouter0() {
        for (int parent : new int[] {Integer.MIN_VALUE, -1, 0, 1, 19, 20, Integer.MAX_VALUE}) {
            World world = World.empty();
            due(world, 0, "addRouter", parent, 17);
            due(world.and("addRouter", parent, 17), 0, "depth", 0);
            same("the parent of router 0 is ignored", world.and("addRouter", parent, 17), World.lone());
        }
    }

    static void promise02ParentIsARouterWithALowerNumber() {
        World world = World.busy();
        due(world, 4, "addRouter", 0, 9);
        due(world, 4, "addRouter", 3, 9);
        refused(world, -1, "addRouter", -1, 9);
        refused(world, -1, "addRouter", 4, 9);
        refusedOutside(world, -1, new Call("addRouter", 0, 9), 0, 0, 3);
        refusedOutside(World.lone(), -1, new Call("addRouter", 0, 9), 0, 0, 0);
    }

    static void promise02AddressFrom0To4095ForRouter0() {
        World world = World.empty();
        due(world, 0, "addRouter", 0, 0);
        due(world, 0, "addRouter", 0, 4095);
        refusedOutside(world, -2, new Call("addRouter", 0, 9), 1, 0, 4095);
    }

    static void promise02AddressFrom0To4095ForLaterRouters() {
        World world = World.busy();
        due(world, 4, "addRouter", 0, 0);
        due(world, 4, "addRouter", 0, 4095);
        refusedOutside(world, -2, new Call("addRouter", 0, 9), 1, 0, 4095);
    }

    /** "No two routers have the same address." */
    static void promise02AddressOfARouterIsADuplicate() {
        World world = chain(19);
        for (int router = 0; router < 19; router++) {
            refused(world, -3, "addRouter", 18 - router, 50 + router);
        }
        due(world, 19, "addRouter", 18, 49);
        due(world, 19, "addRouter", 18, 69);
        World ends = World.empty().and("addRouter", 0, 0).and("addRouter", 0, 4095);
        refused(ends, -3, "addRouter", 0, 0);
        refused(ends, -3, "addRouter", 1, 4095);
        // The rows for routers that are not there yet must not count as the address 0.
        due(World.lone(), 1, "addRouter", 0, 0);
    }

    static void promise02RefusedAddressIsStillFree() {
        World world = World.lone().and("addRouter", 1, 9);
        due(world, 1, "addRouter", 0, 9);
        World full = World.full().and("addRouter", 0, 9);
        refused(full, -4, "addRouter", 0, 9);
    }

    /** "There are up to 20 routers." */
    static void promise02TwentyRoutersAndNoMore() {
        for (int routers = 0; routers < 20; routers++) {
            due(chain(routers), routers, "addRouter", routers - 1, 4000);
        }
        for (int parent : new int[] {0, 1, 18, 19}) {
            refused(World.full(), -4, "addRouter", parent, 9);
            refused(chain(20), -4, "addRouter", parent, 0);
            refused(chain(20), -4, "addRouter", parent, 4095);
        }
    }

    static void promise02NoSuchRouterComesFirst() {
        refused(World.busy(), -1, "addRouter", 4, 4096);
        refused(World.busy(), -1, "addRouter", -1, -1);
        refused(World.busy(), -1, "addRouter", 4, 17);
        refused(World.full(), -1, "addRouter", 20, 9);
        refused(World.full(), -1, "addRouter", -1, 9);
        refused(World.full(), -1, "addRouter", 20, 4096);
        refused(World.full(), -1, "addRouter", 20, 100);
    }

    static void promise02BadValueComesBeforeFull() {
        refused(World.full(), -2, "addRouter", 19, -1);
        refused(World.full(), -2, "addRouter", 19, 4096);
    }

    static void promise02DuplicateComesBeforeFull() {
        refused(World.full(), -3, "addRouter", 19, 100);
        refused(World.full(), -3, "addRouter", 0, 100 + 37 * 19);
    }

    /** NO_SUCH_ROUTER only "if this is not the first router". */
    static void promise02FirstRouterIsNotRefusedForItsParent() {
        refused(World.empty(), -2, "addRouter", -1, -1);
        refused(World.empty(), -2, "addRouter", 20, 4096);
        due(World.empty().and("addRouter", 0, 4096), 0, "addRouter", 9, 17);
        refused(World.lone(), -1, "addRouter", 1, 18);
    }

    // ---- Promise 3: routerCount

    static void promise03NoRouters() {
        unchanged(World.empty(), 0, "routerCount");
    }

    static void promise03From0To20() {
        for (int routers = 0; routers <= 20; routers++) {
            due(chain(routers), routers, "routerCount");
        }
        unchanged(World.full(), 20, "routerCount");
    }

    static void promise03RefusedRoutersDoNotCount() {
        World refusing = World.lone().and("addRouter", 1, 9).and("addRouter", 0, 4096).and("addRouter", 0, 17);
        due(refusing, 1, "routerCount");
        due(World.empty().and("addRouter", 0, -1), 0, "routerCount");
        due(World.full().and("addRouter", 0, 9), 20, "routerCount");
    }

    // ---- Promise 4: depth

    static void promise04NoRouters() {
        refused(World.empty(), -1, "depth", 0);
        refused(World.empty(), -1, "depth", -1);
    }

    static void promise04RouterExists() {
        due(World.busy(), 0, "depth", 0);
        due(World.busy(), 1, "depth", 3);
        refusedOutside(World.busy(), -1, new Call("depth", 0), 0, 0, 3);
        refusedOutside(World.full(), -1, new Call("depth", 0), 0, 0, 19);
    }

    static void promise04DepthFrom0To19() {
        World star = World.lone();
        for (int router = 1; router < 20; router++) {
            star = star.and("addRouter", 0, 100 + router);
        }
        due(star, 0, "depth", 0);
        due(World.row(), 0, "depth", 0);
        for (int router = 1; router < 20; router++) {
            due(World.row(), router, "depth", router);
            due(star, 1, "depth", router);
        }
    }

    // ---- Promise 5: digest

    static void promise05AddressFrom0To4095() {
        unchanged(World.empty(), 3, "digest", 0);
        unchanged(World.empty(), 17, "digest", 4095);
        unchanged(World.busy(), 17, "digest", 4095);
        refusedOutside(World.empty(), -2, new Call("digest", 0), 0, 0, 4095);
        refusedOutside(World.busy(), -2, new Call("digest", 0), 0, 0, 4095);
    }

    /** "& 255": the digests of all addresses take up all of 0 to 255 and nothing else. */
    static void promise05DigestFrom0To255() {
        int[] times = new int[256];
        for (int address = 0; address < 4096; address++) {
            int digest = World.empty().ask("digest", address);
            holds("digest(" + address + ")", digest == Math.floorMod((address * 167 + 29) / 8 ^ address, 256));
            times[digest]++;
        }
        holds("some address has the digest 0", times[0] > 0);
        holds("some address has the digest 255", times[255] > 0);
    }

    // ---- Promise 6: fragment

    static void promise06AddressFrom0To4095() {
        unchanged(World.empty(), 3, "fragment", 0, 0);
        unchanged(World.busy(), 31, "fragment", 4095, 3);
        refusedOutside(World.empty(), -2, new Call("fragment", 0, 0), 0, 0, 4095);
        refusedOutside(World.busy(), -2, new Call("fragment", 0, 3), 0, 0, 4095);
    }

    static void promise06OffsetFrom0To3() {
        int[] fragments = {17, 24, 31, 31};
        for (int offset = 0; offset < 4; offset++) {
            due(World.empty(), fragments[offset], "fragment", 4095, offset);
        }
        refusedOutside(World.empty(), -2, new Call("fragment", 0, 0), 1, 0, 3);
        refusedOutside(World.busy(), -2, new Call("fragment", 4095, 0), 1, 0, 3);
    }

    static void promise06BothOutOfRange() {
        refused(World.busy(), -2, "fragment", -1, -1);
        refused(World.busy(), -2, "fragment", 4096, 4);
    }

    /** "A fragment is a value from 0 to 31", and the word "has 20 bits". */
    static void promise06FragmentFrom0To31() {
        for (int offset = 0; offset < 4; offset++) {
            int[] times = new int[32];
            for (int address = 0; address < 4096; address++) {
                int fragment = World.empty().ask("fragment", address, offset);
                holds("fragment(" + address + ", " + offset + ")",
                        fragment == NaiveTraceback.fragments(address)[offset]);
                times[fragment]++;
            }
            holds("fragment 0 at offset " + offset, times[0] > 0);
            holds("fragment 31 at offset " + offset, times[31] > 0);
        }
    }
}
