/** The five examples of the document, as they stand there. */
public final class ExamplesTest {
    private static final Checks CHECKS = new Checks("ExamplesTest");

    public static void main(String[] args) {
        digestAndFragments();
        everyRouterMarks();
        pathOfThreeRouters();
        forgedMark();
        errorsInOrder();
        CHECKS.finish();
    }

    private static void due(String call, int got, int want) {
        CHECKS.due(call, got, want);
    }

    private static void digestAndFragments() {
        PacketTraceback x = new PacketTraceback();
        due("1: addRouter(0, 17)", x.addRouter(0, 17), 0);
        due("1: addRouter(0, 300)", x.addRouter(0, 300), 1);
        due("1: depth(1)", x.depth(1), 1);
        due("1: digest(17)", x.digest(17), 119);
        due("1: fragment(17, 0)", x.fragment(17, 0), 23);
        due("1: fragment(17, 1)", x.fragment(17, 1), 11);
        due("1: fragment(17, 2)", x.fragment(17, 2), 4);
        due("1: fragment(17, 3)", x.fragment(17, 3), 0);
    }

    private static void everyRouterMarks() {
        PacketTraceback x = new PacketTraceback();
        due("2: addRouter(0, 17)", x.addRouter(0, 17), 0);
        due("2: addRouter(0, 300)", x.addRouter(0, 300), 1);
        due("2: setMarkingPercent(100)", x.setMarkingPercent(100), 20);
        due("2: sendPackets(1, 20)", x.sendPackets(1, 20), 20);
        due("2: greatestDistance()", x.greatestDistance(), 0);
        due("2: packetsAtDistance(0)", x.packetsAtDistance(0), 20);
        due("2: fragmentCount(0, 0)", x.fragmentCount(0, 0), 1);
        due("2: isPathComplete(0)", x.isPathComplete(0), 1);
        due("2: isPathComplete(1)", x.isPathComplete(1), 0);
        due("2: reconstruct()", x.reconstruct(), 1);
        due("2: nodeAddress(0)", x.nodeAddress(0), 17);
        due("2: nodeRouter(0)", x.nodeRouter(0), 0);
        due("2: nodeOf(1)", x.nodeOf(1), -7);
    }

    private static void pathOfThreeRouters() {
        PacketTraceback x = new PacketTraceback();
        due("3: addRouter(0, 17)", x.addRouter(0, 17), 0);
        due("3: addRouter(0, 300)", x.addRouter(0, 300), 1);
        due("3: addRouter(1, 4000)", x.addRouter(1, 4000), 2);
        due("3: setMarkingPercent(30)", x.setMarkingPercent(30), 20);
        due("3: packetsNeeded(2, 500)", x.packetsNeeded(2, 500), 93);
        due("3: sendPackets(2, 300)", x.sendPackets(2, 300), 184);
        due("3: isPathComplete(2)", x.isPathComplete(2), 1);
        due("3: reconstruct()", x.reconstruct(), 3);
        due("3: falseNodeCount()", x.falseNodeCount(), 0);
        due("3: nodeOf(2)", x.nodeOf(2), 2);
        due("3: nodeParent(2)", x.nodeParent(2), 1);
    }

    private static void forgedMark() {
        PacketTraceback x = new PacketTraceback();
        due("4: addRouter(3, 5)", x.addRouter(3, 5), 0);
        due("4: addRouter(0, 6)", x.addRouter(0, 6), 1);
        due("4: setMarkingPercent(1)", x.setMarkingPercent(1), 20);
        due("4: sendForged(1, 1, 0, 2, 31)", x.sendForged(1, 1, 0, 2, 31), 0);
        due("4: packetsAtDistance(2)", x.packetsAtDistance(2), 1);
        due("4: unmarkedCount()", x.unmarkedCount(), 0);
        due("4: clearMarks()", x.clearMarks(), 1);
    }

    private static void errorsInOrder() {
        PacketTraceback x = new PacketTraceback();
        due("5: addRouter(0, 4096)", x.addRouter(0, 4096), -2);
        due("5: addRouter(0, 1)", x.addRouter(0, 1), 0);
        due("5: addRouter(9, 1)", x.addRouter(9, 1), -1);
        due("5: addRouter(0, 1)", x.addRouter(0, 1), -3);
        due("5: sendPackets(0, 501)", x.sendPackets(0, 501), -2);
        due("5: sendPackets(7, 501)", x.sendPackets(7, 501), -1);
        due("5: nodeAddress(0)", x.nodeAddress(0), -5);
    }
}
