import java.util.ArrayList;
import java.util.List;
import java.util.Random;

/**
 * Long runs of calls from fixed seeds, each call made on the class and on NaiveTraceback, whose
 * answers must be the same; after a run the whole state that can be seen is compared, on objects
 * on which the run is made again, so that none of them is used for more than 512 calls.
 */
public final class ModelTest {
    private static final Checks CHECKS = new Checks("ModelTest");
    private static final int RUNS = 300;
    private static final int CALLS = 300;
    private static final int[] EDGES = {
        Integer.MIN_VALUE, -8, -7, -2, -1, 0, 1, 2, 3, 4, 5, 19, 20, 21, 30, 31, 32, 33, 99, 100, 101,
        127, 128, 499, 500, 501, 1999, 2000, 2001, 4095, 4096, 65536, Integer.MAX_VALUE};

    private static int failed;
    private static int withoutNodes;
    private static int withManyTrue;
    private static int withFalse;

    private final Random random;
    private final int run;
    private final int forgerDistances;
    private final PacketTraceback real = new PacketTraceback();
    private final NaiveTraceback naive = new NaiveTraceback();
    private final List<Call> played = new ArrayList<>();

    private ModelTest(int run) {
        this.run = run;
        random = new Random(run);
        forgerDistances = 1 + random.nextInt(5);
    }

    public static void main(String[] args) {
        for (int run = 0; run < RUNS; run++) {
            ModelTest test = new ModelTest(run);
            test.playRun();
            test.compareState();
        }
        // Runs that never get there would prove nothing about the tree.
        CHECKS.holds("some reconstructions failed", failed > 100);
        CHECKS.holds("some reconstructions found no node", withoutNodes > 100);
        CHECKS.holds("some reconstructions found many true nodes", withManyTrue > 100);
        CHECKS.holds("some reconstructions found false nodes", withFalse > 100);
        CHECKS.finish();
    }

    private void playRun() {
        if (run % 2 == 0) {
            both("setSeed", random.nextInt());
        }
        int firstRouters = random.nextInt(12);
        for (int i = 0; i < firstRouters; i++) {
            both("addRouter", random.nextInt(i + 1), address());
        }
        for (int i = 0; i < CALLS; i++) {
            step();
        }
        reconstructBoth();
    }

    private void reconstructBoth() {
        both("reconstruct");
        if (naive.reconstruct() < 0) {
            failed++;
            return;
        }
        int falseNodes = naive.falseNodeCount();
        withoutNodes += naive.nodeCount() == 0 ? 1 : 0;
        withManyTrue += naive.nodeCount() - falseNodes > 4 ? 1 : 0;
        withFalse += falseNodes > 0 ? 1 : 0;
    }

    private void step() {
        int kind = random.nextInt(44);
        switch (kind) {
            case 0 -> both("addRouter", wild(naive.routerCount()), wild(4096));
            case 1 -> both("addRouter", router(), address());
            case 2 -> both("depth", wild(20));
            case 3 -> both("digest", wild(4096));
            case 4 -> both("fragment", wild(4096), wild(4));
            case 5 -> both("setMarkingPercent", random.nextBoolean() ? 1 + random.nextInt(30) : wild(101));
            case 6 -> both("setSeed", random.nextInt());
            case 7 -> { if (random.nextInt(20) == 0) both("clearMarks"); }
            case 8, 9, 10, 11 -> both("sendPackets", router(), 1 + random.nextInt(120));
            case 12 -> both("sendPackets", wild(20), wild(501));
            case 13 -> both("sendForged", wild(20), wild(501), wild(32), wild(4), wild(32));
            case 14 -> both("packetsAtDistance", wild(32));
            case 15 -> both("markCount", wild(32), wild(4), wild(32));
            case 16 -> both("fragmentCount", wild(32), wild(4));
            case 17 -> both("greatestDistance");
            case 18, 19 -> both("isPathComplete", wild(20));
            case 20 -> both("packetsNeeded", wild(20), wild(2001));
            case 21 -> both("packetsNeeded", router(), 1 + random.nextInt(2000));
            case 22, 23 -> reconstructBoth();
            case 24 -> both("nodeAddress", wild(101));
            case 25 -> both("nodeDistance", wild(12));
            case 26 -> both("nodeParent", wild(12));
            case 27 -> both("nodeRouter", wild(12));
            case 28 -> both("falseNodeCount");
            case 29 -> both("nodeOf", wild(20));
            case 30 -> both("unmarkedCount");
            case 31 -> both("nodeCount");
            case 32 -> both("routerCount");
            default -> forge();
        }
    }

    /** Forges near the victim, so that the tree gets false nodes. */
    private void forge() {
        if (run % 3 == 0) {
            return;
        }
        int router = run % 3 == 1 ? 0 : router();
        int fragments = run % 5 == 0 ? 32 : 9;
        both("sendForged", router, 1 + random.nextInt(3), random.nextInt(forgerDistances),
                random.nextInt(4), random.nextInt(fragments));
    }

    private int router() {
        return naive.routerCount() == 0 ? 0 : random.nextInt(naive.routerCount());
    }

    private int address() {
        return random.nextInt(random.nextBoolean() ? 4096 : 64);
    }

    private int wild(int bound) {
        int kind = random.nextInt(10);
        if (kind == 0) {
            return EDGES[random.nextInt(EDGES.length)];
        }
        if (kind == 1) {
            return random.nextInt();
        }
        return random.nextInt(bound + 1);
    }

    private void compareState() {
        List<Call> questions = World.questions();
        List<Integer> answers = World.of(played).answers(questions);
        for (int place = 0; place < questions.size(); place++) {
            Call question = questions.get(place);
            CHECKS.due("after run " + run + " " + question.text(), answers.get(place), question.on(naive));
        }
    }

    private void both(String method, int... arguments) {
        Call call = new Call(method, arguments);
        played.add(call);
        CHECKS.due("run " + run + " " + call.text(), call.on(real), call.on(naive));
    }
}
