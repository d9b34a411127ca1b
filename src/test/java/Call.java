import java.util.Arrays;

/** A call as data, so that it can be named, changed, and made on the class and on NaiveTraceback. */
record Call(String method, int... arguments) {

    /** The same call with one argument changed. */
    Call with(int index, int value) {
        int[] changed = arguments.clone();
        changed[index] = value;
        return new Call(method, changed);
    }

    String text() {
        String list = Arrays.toString(arguments);
        return method + "(" + list.substring(1, list.length() - 1) + ")";
    }

    int on(PacketTraceback x) {
        int[] a = arguments;
        return switch (method) {
            case "addRouter" -> x.addRouter(a[0], a[1]);
            case "routerCount" -> x.routerCount();
            case "depth" -> x.depth(a[0]);
            case "digest" -> x.digest(a[0]);
            case "fragment" -> x.fragment(a[0], a[1]);
            case "setMarkingPercent" -> x.setMarkingPercent(a[0]);
            case "setSeed" -> x.setSeed(a[0]);
            case "clearMarks" -> x.clearMarks();
            case "sendPackets" -> x.sendPackets(a[0], a[1]);
            case "sendForged" -> x.sendForged(a[0], a[1], a[2], a[3], a[4]);
            case "packetsAtDistance" -> x.packetsAtDistance(a[0]);
            case "unmarkedCount" -> x.unmarkedCount();
            case "markCount" -> x.markCount(a[0], a[1], a[2]);
            case "fragmentCount" -> x.fragmentCount(a[0], a[1]);
            case "greatestDistance" -> x.greatestDistance();
            case "isPathComplete" -> x.isPathComplete(a[0]);
            case "packetsNeeded" -> x.packetsNeeded(a[0], a[1]);
            case "reconstruct" -> x.reconstruct();
            case "nodeCount" -> x.nodeCount();
            case "nodeAddress" -> x.nodeAddress(a[0]);
            case "nodeDistance" -> x.nodeDistance(a[0]);
            case "nodeParent" -> x.nodeParent(a[0]);
            case "nodeRouter" -> x.nodeRouter(a[0]);
            case "falseNodeCount" -> x.falseNodeCount();
            case "nodeOf" -> x.nodeOf(a[0]);
            default -> throw new IllegalArgumentException(method);
        };
    }

    int on(NaiveTraceback x) {
        int[] a = arguments;
        return switch (method) {
            case "addRouter" -> x.addRouter(a[0], a[1]);
            case "routerCount" -> x.routerCount();
            case "depth" -> x.depth(a[0]);
            case "digest" -> x.digest(a[0]);
            case "fragment" -> x.fragment(a[0], a[1]);
            case "setMarkingPercent" -> x.setMarkingPercent(a[0]);
            case "setSeed" -> x.setSeed(a[0]);
            case "clearMarks" -> x.clearMarks();
            case "sendPackets" -> x.sendPackets(a[0], a[1]);
            case "sendForged" -> x.sendForged(a[0], a[1], a[2], a[3], a[4]);
            case "packetsAtDistance" -> x.packetsAtDistance(a[0]);
            case "unmarkedCount" -> x.unmarkedCount();
            case "markCount" -> x.markCount(a[0], a[1], a[2]);
            case "fragmentCount" -> x.fragmentCount(a[0], a[1]);
            case "greatestDistance" -> x.greatestDistance();
            case "isPathComplete" -> x.isPathComplete(a[0]);
            case "packetsNeeded" -> x.packetsNeeded(a[0], a[1]);
            case "reconstruct" -> x.reconstruct();
            case "nodeCount" -> x.nodeCount();
            case "nodeAddress" -> x.nodeAddress(a[0]);
            case "nodeDistance" -> x.nodeDistance(a[0]);
            case "nodeParent" -> x.nodeParent(a[0]);
            case "nodeRouter" -> x.nodeRouter(a[0]);
            case "falseNodeCount" -> x.falseNodeCount();
            case "nodeOf" -> x.nodeOf(a[0]);
            default -> throw new IllegalArgumentException(method);
        };
    }
}
