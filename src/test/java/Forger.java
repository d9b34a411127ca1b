/**
 * Puts chosen marks into the record of an object whose gateway has a known address. Fragments are
 * worked out by NaiveTraceback, since an object is used for at most 512 calls.
 */
final class Forger {
    private Forger() { }

    /** An object with a gateway of this address whose four marks are recorded, with percentage 1. */
    static PacketTraceback withGateway(int address) {
        PacketTraceback x = new PacketTraceback();
        x.addRouter(0, address);
        x.setMarkingPercent(100);
        x.sendPackets(0, 50);
        x.setMarkingPercent(1);
        return x;
    }

    /** Records one mark with a distance of 1 or more; the first number of seed 1 is 16838. */
    static void put(PacketTraceback x, int gateway, int distance, int offset, int fragment) {
        int before = x.setSeed(1);
        int start = distance == 1 ? fragment ^ NaiveTraceback.fragments(gateway)[offset] : fragment;
        x.sendForged(0, 1, distance - 1, offset, start);
        x.setSeed(before);
    }

    /** Records the four marks by which the tree gets a node with this address and parent. */
    static void putNode(PacketTraceback x, int gateway, int distance, int address, int parentAddress) {
        for (int offset = 0; offset < 4; offset++) {
            put(x, gateway, distance, offset, NaiveTraceback.fragments(address)[offset]
                    ^ NaiveTraceback.fragments(parentAddress)[offset]);
        }
    }
}
