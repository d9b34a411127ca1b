import java.util.ArrayList;
import java.util.Arrays;
import java.util.List;
import java.util.Random;

/**
 * Laws between the answers that follow from the Description, on networks from fixed seeds. They lean
 * on no second program, so a sentence that both programs read wrongly would be seen here.
 */
public final class LawTest {
    private static final Checks CHECKS = new Checks("LawTest");
    private static final int NETWORKS = 150;

    private static int complete;
    private static int incomplete;
    private static int falseNodes;

    private final int[] parents;
    private final int[] addresses;
    private final Random random;
    /** The routers, the percentage and the seed, without packets. */
    private final World network;

    private LawTest(int seed) {
        random = new Random(seed);
        int routers = 1 + random.nextInt(20);
        parents = new int[routers];
        addresses = random.ints(0, 4096).distinct().limit(routers).toArray();
        World world = World.empty().and("setSeed", random.nextInt())
                .and("setMarkingPercent", 5 + random.nextInt(30));
        for (int router = 0; router < routers; router++) {
            parents[router] = router == 0 ? -1 : random.nextInt(router);
            world = world.and("addRouter", parents[router], addresses[router]);
        }
        network = world;
    }

    public static void main(String[] args) {
        for (int seed = 0; seed < NETWORKS; seed++) {
            LawTest test = new LawTest(seed);
            World sent = test.send(seed % 3 == 0);
            if (seed % 3 != 0) {
                test.onlyTrueMarksArrive(sent);
            }
            test.allPacketsArriveOnce(sent);
            test.nodesStandForCompletePaths(sent.make());
            test.packetsNeededCompleteThePath();
        }
        CHECKS.holds("some paths were complete", complete > 100);
        CHECKS.holds("some paths were not complete", incomplete > 100);
        CHECKS.holds("some nodes were false", falseNodes > 100);
        CHECKS.finish();
    }

    private World send(boolean forged) {
        World sent = network;
        for (int times = 0; times < 30; times++) {
            sent = sent.and("sendPackets", random.nextInt(parents.length), 1 + random.nextInt(200));
        }
        for (int times = 0; forged && times < 20; times++) {
            sent = sent.and("sendForged", random.nextInt(parents.length), 1 + random.nextInt(3),
                    random.nextInt(2), random.nextInt(4), random.nextInt(32));
        }
        return sent;
    }

    private int depth(int router) {
        return router == 0 ? 0 : 1 + depth(parents[router]);
    }

    /** "The XOR of the fragments of that router and its parent", but for router 0 its own alone. */
    private int trueFragment(int router, int offset) {
        int own = fragment(addresses[router], offset);
        return router == 0 ? own : own ^ fragment(addresses[parents[router]], offset);
    }

    private static int fragment(int address, int offset) {
        return new PacketTraceback().fragment(address, offset);
    }

    /** "True marks": without forged packets each recorded mark is one of the marks of a router. */
    private void onlyTrueMarksArrive(World sent) {
        boolean[] isTrue = new boolean[32 * 4 * 32];
        for (int router = 0; router < parents.length; router++) {
            for (int offset = 0; offset < 4; offset++) {
                isTrue[(depth(router) * 4 + offset) * 32 + trueFragment(router, offset)] = true;
            }
        }
        List<Integer> counts = sent.answers(markQuestions());
        for (int place = 0; place < isTrue.length; place++) {
            CHECKS.holds("the mark " + markQuestion(place).text() + " is true",
                    isTrue[place] || counts.get(place) == 0);
        }
    }

    private static Call markQuestion(int place) {
        return new Call("markCount", place / 128, place / 32 % 4, place % 32);
    }

    private static List<Call> markQuestions() {
        List<Call> questions = new ArrayList<>();
        for (int place = 0; place < 32 * 4 * 32; place++) {
            questions.add(markQuestion(place));
        }
        return questions;
    }

    /** "The victim records the mark of every packet that it receives, or that the packet had none." */
    private void allPacketsArriveOnce(World sent) {
        int[] counts = sent.answers(markQuestions()).stream().mapToInt(count -> count).toArray();
        int all = sent.ask("unmarkedCount");
        int greatest = -7;
        for (int distance = 0; distance < 32; distance++) {
            int atDistance = 0;
            for (int offset = 0; offset < 4; offset++) {
                int first = (distance * 4 + offset) * 32;
                int[] ofOffset = Arrays.copyOfRange(counts, first, first + 32);
                atDistance += Arrays.stream(ofOffset).sum();
                CHECKS.due("fragmentCount", sent.ask("fragmentCount", distance, offset),
                        (int) Arrays.stream(ofOffset).filter(count -> count > 0).count());
            }
            CHECKS.due("packetsAtDistance", sent.ask("packetsAtDistance", distance), atDistance);
            greatest = atDistance > 0 ? distance : greatest;
            all += atDistance;
        }
        CHECKS.due("greatestDistance", sent.ask("greatestDistance"), greatest);
        CHECKS.due("clearMarks", sent.ask("clearMarks"), all);
        CHECKS.due("the packets that were sent", all, sent.packetsSent());
    }

    /** A router has a node just if its path is complete; all other nodes are false. */
    private void nodesStandForCompletePaths(PacketTraceback x) {
        int nodes = x.reconstruct();
        if (nodes == PacketTraceback.TOO_MANY) {
            return;
        }
        int trueNodes = 0;
        for (int router = 0; router < parents.length; router++) {
            int node = x.nodeOf(router);
            CHECKS.holds("a node for a complete path", (node >= 0) == (x.isPathComplete(router) == 1));
            if (node >= 0) {
                trueNodes++;
                CHECKS.due("nodeRouter", x.nodeRouter(node), router);
                CHECKS.due("nodeAddress", x.nodeAddress(node), addresses[router]);
                CHECKS.due("nodeDistance", x.nodeDistance(node), x.depth(router));
                CHECKS.due("nodeParent", x.nodeParent(node), router == 0 ? -7 : x.nodeOf(parents[router]));
            }
        }
        CHECKS.due("nodeCount", x.nodeCount(), nodes);
        CHECKS.due("falseNodeCount", x.falseNodeCount(), nodes - trueNodes);
        complete += trueNodes;
        incomplete += parents.length - trueNodes;
        falseNodes += nodes - trueNodes;
    }

    /** "Sent from that router one by one": a packet fewer leaves the path incomplete. */
    private void packetsNeededCompleteThePath() {
        int router = random.nextInt(parents.length);
        int needed = network.ask("packetsNeeded", router, 2000);
        int before = needed == PacketTraceback.NONE ? 2000 : needed - 1;
        World sent = network.times(before / 500, "sendPackets", router, 500);
        sent = before % 500 == 0 ? sent : sent.and("sendPackets", router, before % 500);
        CHECKS.due("isPathComplete before", sent.ask("isPathComplete", router), 0);
        if (needed != PacketTraceback.NONE) {
            CHECKS.due("isPathComplete", sent.and("sendPackets", router, 1).ask("isPathComplete", router), 1);
        }
    }
}
