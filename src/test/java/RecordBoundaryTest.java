/** The boundary cases of promises 12 to 18: what the victim has received, and paths. */
public final class RecordBoundaryTest extends Boundary {
    public static void main(String[] args) throws IllegalAccessException {
        runTests(RecordBoundaryTest.class, 12, 18);
    }

    /** One packet without a mark has been received, and nothing else. */
    private static World onlyUnmarked() {
        return World.lone().and("setSeed", Draws.seedWith(99)).and("sendPackets", 0, 1);
    }

    // ---- Promise 12: packetsAtDistance

    static void promise12NoMarks() {
        for (int distance = 0; distance < 32; distance++) {
            due(World.empty(), 0, "packetsAtDistance", distance);
            due(onlyUnmarked(), 0, "packetsAtDistance", distance);
            due(World.busy().and("clearMarks"), 0, "packetsAtDistance", distance);
        }
    }

    static void promise12DistanceFrom0To31() {
        World world = World.gateway().mark(31, 0, 0).mark(31, 3, 31).mark(30, 0, 0);
        unchanged(world, 50, "packetsAtDistance", 0);
        unchanged(world, 2, "packetsAtDistance", 31);
        due(world, 1, "packetsAtDistance", 30);
        due(world, 0, "packetsAtDistance", 1);
        refusedOutside(World.empty(), -2, new Call("packetsAtDistance", 0), 0, 0, 31);
        refusedOutside(World.busy(), -2, new Call("packetsAtDistance", 0), 0, 0, 31);
    }

    // ---- Promise 13: unmarkedCount

    static void promise13NothingReceived() {
        unchanged(World.empty(), 0, "unmarkedCount");
        unchanged(World.lone(), 0, "unmarkedCount");
        due(onlyUnmarked().and("clearMarks"), 0, "unmarkedCount");
    }

    static void promise13AllOrNoneUnmarked() {
        unchanged(onlyUnmarked(), 1, "unmarkedCount");
        due(World.lone().forging().and("sendPackets", 0, 500), 500, "unmarkedCount");
        due(World.lone().and("setMarkingPercent", 100).and("sendPackets", 0, 500), 0, "unmarkedCount");
        due(World.lone().forging().and("sendForged", 0, 500, 31, 0, 0), 0, "unmarkedCount");
    }

    static void promise13RefusedPacketsDoNotCount() {
        World world = onlyUnmarked();
        due(world.and("sendPackets", 0, 501), 1, "unmarkedCount");
        due(world.and("sendPackets", 1, 1), 1, "unmarkedCount");
    }

    // ---- Promise 14: markCount

    static void promise14NoMarks() {
        for (int place = 0; place < 32 * 4 * 32; place++) {
            due(World.empty(), 0, "markCount", place / 128, place / 32 % 4, place % 32);
        }
        due(onlyUnmarked(), 0, "markCount", 0, 0, 0);
    }

    /** The eight corners, each recorded another number of times. */
    private static World corners() {
        World world = World.gateway();
        for (int corner = 0; corner < 8; corner++) {
            for (int times = 0; times <= corner; times++) {
                world = world.mark(corner % 2 == 0 ? 1 : 31, corner / 2 % 2 * 3, corner / 4 * 31);
            }
        }
        return world;
    }

    static void promise14DistanceFrom0To31() {
        due(corners(), 1, "markCount", 1, 0, 0);
        due(corners(), 2, "markCount", 31, 0, 0);
        int atGateway = 0;
        for (int offset = 0; offset < 4; offset++) {
            atGateway += World.gateway().ask("markCount", 0, offset, NaiveTraceback.fragments(17)[offset]);
        }
        holds("all packets of the gateway have distance 0", atGateway == 50);
        refusedOutside(World.busy(), -2, new Call("markCount", 0, 0, 0), 0, 0, 31);
    }

    static void promise14OffsetFrom0To3() {
        due(corners(), 2, "markCount", 31, 0, 0);
        due(corners(), 4, "markCount", 31, 3, 0);
        due(corners(), 0, "markCount", 31, 1, 0);
        due(corners(), 0, "markCount", 31, 2, 0);
        refusedOutside(World.busy(), -2, new Call("markCount", 0, 0, 0), 1, 0, 3);
    }

    static void promise14FragmentFrom0To31() {
        due(corners(), 2, "markCount", 31, 0, 0);
        due(corners(), 6, "markCount", 31, 0, 31);
        due(corners(), 7, "markCount", 1, 3, 31);
        due(corners(), 8, "markCount", 31, 3, 31);
        due(corners(), 0, "markCount", 31, 0, 1);
        due(corners(), 0, "markCount", 31, 0, 30);
        unchanged(corners(), 8, "markCount", 31, 3, 31);
        refusedOutside(World.busy(), -2, new Call("markCount", 0, 0, 0), 2, 0, 31);
    }

    static void promise14AllOutOfRange() {
        refused(World.busy(), -2, "markCount", -1, -1, -1);
        refused(World.busy(), -2, "markCount", 32, 4, 32);
    }

    // ---- Promise 15: fragmentCount

    static void promise15NoMarks() {
        for (int place = 0; place < 32 * 4; place++) {
            due(World.empty(), 0, "fragmentCount", place / 4, place % 4);
            due(onlyUnmarked(), 0, "fragmentCount", place / 4, place % 4);
        }
    }

    static void promise15From0To32DifferentFragments() {
        for (int count = 0; count <= 32; count++) {
            World world = World.gateway().fragments(31, 0, count, 0, 0);
            due(world, count, "fragmentCount", 31, 1);
            due(world, 0, "fragmentCount", 31, 0);
            due(world, 0, "fragmentCount", 31, 2);
            due(world, 0, "fragmentCount", 30, 1);
        }
    }

    static void promise15SameFragmentCountsOnce() {
        World world = World.gateway().mark(9, 3, 31).mark(9, 3, 31).mark(9, 3, 31);
        unchanged(world, 1, "fragmentCount", 9, 3);
        due(World.gateway(), 1, "fragmentCount", 0, 3);
    }

    static void promise15DistanceFrom0To31() {
        due(World.gateway(), 1, "fragmentCount", 0, 0);
        due(World.gateway().mark(31, 0, 0), 1, "fragmentCount", 31, 0);
        refusedOutside(World.busy(), -2, new Call("fragmentCount", 0, 0), 0, 0, 31);
    }

    static void promise15OffsetFrom0To3() {
        due(World.gateway().mark(31, 0, 0), 1, "fragmentCount", 31, 0);
        due(World.gateway().mark(31, 3, 0), 1, "fragmentCount", 31, 3);
        refusedOutside(World.busy(), -2, new Call("fragmentCount", 0, 0), 1, 0, 3);
        refused(World.busy(), -2, "fragmentCount", 32, 4);
    }

    // ---- Promise 16: greatestDistance

    static void promise16NoneIfThereIsNoMark() {
        unchanged(World.empty(), -7, "greatestDistance");
        unchanged(World.lone(), -7, "greatestDistance");
        unchanged(onlyUnmarked(), -7, "greatestDistance");
        due(World.busy().and("clearMarks"), -7, "greatestDistance");
    }

    static void promise16From0To31() {
        unchanged(World.gateway(), 0, "greatestDistance");
        for (int distance = 1; distance <= 31; distance++) {
            for (int offset = 0; offset < 4; offset++) {
                due(World.lone().forging().mark(distance, offset, 0), distance, "greatestDistance");
                due(World.gateway().mark(distance, offset, 31).mark(1, 0, 0), distance, "greatestDistance");
            }
        }
    }

    // ---- Promise 17: isPathComplete

    static void promise17NoRouters() {
        refused(World.empty(), -1, "isPathComplete", 0);
        refused(World.empty(), -1, "isPathComplete", -1);
    }

    static void promise17RouterExists() {
        due(World.full(), 1, "isPathComplete", 0);
        due(World.full(), 1, "isPathComplete", 19);
        refusedOutside(World.busy(), -1, new Call("isPathComplete", 0), 0, 0, 3);
        refusedOutside(World.full(), -1, new Call("isPathComplete", 0), 0, 0, 19);
    }

    static void promise17NoMarks() {
        unchanged(World.lone(), 0, "isPathComplete", 0);
        due(onlyUnmarked(), 0, "isPathComplete", 0);
        for (int router = 0; router < 20; router++) {
            due(World.row(), 0, "isPathComplete", router);
            due(World.full().and("clearMarks"), 0, "isPathComplete", router);
        }
    }

    /** "All marks of the router": with any one of the four missing it is not complete. */
    static void promise17OneMarkMissing() {
        World routers = World.gateway().and("addRouter", 0, 300);
        for (int missing = 0; missing < 4; missing++) {
            World world = routers;
            for (int offset = 0; offset < 4; offset++) {
                if (offset != missing) {
                    world = world.mark(1, offset, trueFragment(300, 17, offset));
                }
            }
            unchanged(world, 0, "isPathComplete", 1);
            World wrong = world.mark(1, missing, trueFragment(300, 17, missing) ^ 1);
            due(wrong, 0, "isPathComplete", 1);
            due(wrong.mark(2, missing, trueFragment(300, 17, missing)), 0, "isPathComplete", 1);
            due(world.mark(1, missing, trueFragment(300, 17, missing)), 1, "isPathComplete", 1);
        }
    }

    private static int trueFragment(int address, int parentAddress, int offset) {
        return NaiveTraceback.fragments(address)[offset] ^ NaiveTraceback.fragments(parentAddress)[offset];
    }

    /** "Of its parent and so on up to router 0". */
    static void promise17OneRouterOnTheWayMissing() {
        World row = World.row().forging();
        for (int missing = 0; missing < 20; missing++) {
            World world = row;
            for (int router = 1; router < 20; router++) {
                world = router == missing ? world : rowMarks(world, router);
            }
            if (missing > 0) {
                world = world.and("setMarkingPercent", 100).and("sendPackets", 0, 50);
            }
            due(world, missing == 0 ? 0 : 1, "isPathComplete", Math.max(0, missing - 1));
            due(world, 0, "isPathComplete", missing);
            due(world, 0, "isPathComplete", 19);
        }
    }

    /** Records the four marks of a router of the row, whose gateway has the address 100. */
    private static World rowMarks(World row, int router) {
        World world = row;
        for (int offset = 0; offset < 4; offset++) {
            int fragment = trueFragment(100 + 37 * router, 100 + 37 * (router - 1), offset);
            int joined = router == 1 ? NaiveTraceback.fragments(100)[offset] : 0;
            world = world.and("sendForged", 0, 1, router - 1, offset, fragment ^ joined);
        }
        return world;
    }

    /** "No matter which packets they came from." */
    static void promise17ForgedMarksCountToo() {
        World world = World.gateway().and("addRouter", 0, 300).node(1, 300, 17);
        unchanged(world, 1, "isPathComplete", 1);
    }

    // ---- Promise 18: packetsNeeded

    static void promise18NoRouters() {
        refused(World.empty(), -1, "packetsNeeded", 0, 1);
        refused(World.empty(), -1, "packetsNeeded", 0, 2001);
    }

    static void promise18RouterExists() {
        World row = World.row();
        holds("router 0 needs four packets or more", row.ask("packetsNeeded", 0, 2000) >= 4);
        holds("router 19 needs eighty packets or more",
                row.and("setMarkingPercent", 5).ask("packetsNeeded", 19, 2000) >= 80);
        refusedOutside(World.busy(), -1, new Call("packetsNeeded", 0, 100), 0, 0, 3);
        refusedOutside(World.full(), -1, new Call("packetsNeeded", 0, 100), 0, 0, 19);
    }

    /** At 1 percent router 0 needs all of 2000 packets from seed 1782, and 2001 from seed 16906. */
    static void promise18LimitFrom1To2000() {
        World world = World.lone().and("setMarkingPercent", 1).and("setSeed", 1782);
        unchanged(world, -7, "packetsNeeded", 0, 1);
        unchanged(world, -7, "packetsNeeded", 0, 1999);
        unchanged(world, 2000, "packetsNeeded", 0, 2000);
        World sent = world.times(3, "sendPackets", 0, 500).and("sendPackets", 0, 499);
        due(sent, 0, "isPathComplete", 0);
        due(sent.and("sendPackets", 0, 1), 1, "isPathComplete", 0);
        World later = World.lone().and("setMarkingPercent", 1).and("setSeed", 16906);
        unchanged(later, -7, "packetsNeeded", 0, 2000);
        World sentLater = later.times(4, "sendPackets", 0, 500);
        due(sentLater, 0, "isPathComplete", 0);
        due(sentLater.and("sendPackets", 0, 1), 1, "isPathComplete", 0);
        refusedOutside(World.busy(), -2, new Call("packetsNeeded", 0, 1), 1, 1, 2000);
        refusedOutside(World.lone(), -2, new Call("packetsNeeded", 0, 1), 1, 1, 2000);
    }

    /** Four marks need four packets; from seed 4 the first four have all four offsets. */
    static void promise18FewestPackets() {
        World world = World.lone().and("setMarkingPercent", 100).and("setSeed", 4);
        unchanged(world, -7, "packetsNeeded", 0, 3);
        unchanged(world, 4, "packetsNeeded", 0, 4);
        unchanged(world, 4, "packetsNeeded", 0, 5);
        unchanged(world, 4, "packetsNeeded", 0, 2000);
    }

    static void promise18NoneIfItNeverBecomesComplete() {
        World world = World.busy().and("setMarkingPercent", 100);
        unchanged(world, -7, "packetsNeeded", 3, 1);
        unchanged(world, -7, "packetsNeeded", 3, 2000);
        unchanged(World.full().and("setMarkingPercent", 100), -7, "packetsNeeded", 19, 2000);
    }

    static void promise18ErrorsInOrder() {
        refused(World.busy(), -1, "packetsNeeded", 4, 0);
        refused(World.busy(), -1, "packetsNeeded", -1, 2001);
        // Both could also be answered with NONE.
        refused(World.busy().and("setMarkingPercent", 100), -2, "packetsNeeded", 3, 0);
        refused(World.busy().and("setMarkingPercent", 100), -2, "packetsNeeded", 3, 2001);
    }

    /** "If no mark were recorded": a path that is complete already needs as many. */
    static void promise18RecordedMarksDoNotHelp() {
        due(World.full(), 1, "isPathComplete", 0);
        int needed = World.row().and("setMarkingPercent", 10).and("setSeed", 3).ask("packetsNeeded", 0, 2000);
        due(World.full().and("setSeed", 3), needed, "packetsNeeded", 0, 2000);
        World again = World.full().and("setSeed", 3).and("packetsNeeded", 0, 2000);
        due(again, needed, "packetsNeeded", 0, 2000);
        World afterOther = World.full().and("setSeed", 3).and("packetsNeeded", 19, 2000);
        due(afterOther, needed, "packetsNeeded", 0, 2000);
    }

    /** "Neither the generator nor the recorded marks change." */
    static void promise18GeneratorAndMarksStay() {
        unchanged(World.full(), World.full().ask("packetsNeeded", 7, 2000), "packetsNeeded", 7, 2000);
        due(World.busy().and("packetsNeeded", 2, 2000), -77, "setSeed", 1);
    }
}
