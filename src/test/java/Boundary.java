import java.lang.reflect.InvocationTargetException;
import java.lang.reflect.Method;
import java.util.ArrayList;
import java.util.Arrays;
import java.util.Comparator;
import java.util.List;

/**
 * What the tests of the boundary cases share. Such a test is a method whose name begins with
 * "promise" and the two figures of its promise; each of them tests one sentence of the document.
 */
abstract class Boundary {
    private static final Checks CHECKS = new Checks("Boundary");

    /** Runs every test of the class, and wants at least one for each of these promises. */
    static void runTests(Class<?> tests, int firstPromise, int lastPromise) throws IllegalAccessException {
        int[] testsOf = new int[100];
        Method[] methods = tests.getDeclaredMethods();
        Arrays.sort(methods, Comparator.comparing(Method::getName));
        for (Method method : methods) {
            if (method.getName().matches("promise[0-9][0-9].*")) {
                testsOf[Integer.parseInt(method.getName().substring(7, 9))]++;
                runTest(method);
            }
        }
        CHECKS.begin(tests.getName());
        for (int promise = 0; promise < testsOf.length; promise++) {
            boolean isDue = promise >= firstPromise && promise <= lastPromise;
            CHECKS.holds("tests of promise " + promise, (testsOf[promise] > 0) == isDue);
        }
        CHECKS.finish();
    }

    private static void runTest(Method method) throws IllegalAccessException {
        CHECKS.begin(method.getName());
        int before = CHECKS.made();
        try {
            method.invoke(null);
        } catch (InvocationTargetException e) {
            CHECKS.holds("no exception, but there was " + e.getCause(), false);
        }
        CHECKS.holds("the test has checks", CHECKS.made() > before);
    }

    static void holds(String claim, boolean isTrue) {
        CHECKS.holds(claim, isTrue);
    }

    static void due(World world, int want, String method, int... arguments) {
        Call call = new Call(method, arguments);
        CHECKS.due(call.text(), world.ask(call), want);
    }

    /** The call has this answer and leaves everything as it was. */
    static void unchanged(World world, int want, String method, int... arguments) {
        unchangedBy(world, want, List.of(new Call(method, arguments)));
    }

    /** A refused call; the answer is the error. */
    static void refused(World world, int error, String method, int... arguments) {
        unchangedBy(world, error, List.of(new Call(method, arguments)));
    }

    /** The call is refused if the argument of this index is not from low to high. */
    static void refusedOutside(World world, int error, Call call, int index, int low, int high) {
        List<Call> calls = new ArrayList<>();
        // Beside the neighbours, numbers that a mask, a narrow type or a sum would take for inside.
        for (int value : new int[] {low - 1, high + 1, low - 2, high + 2, -high - 1, low + 4096 * 16,
            high - 4096 * 16, low + (1 << 30), Integer.MIN_VALUE, Integer.MIN_VALUE + high,
            Integer.MAX_VALUE}) {
            if (value < low || value > high) {
                calls.add(call.with(index, value));
            }
        }
        unchangedBy(world, error, calls);
    }

    private static void unchangedBy(World world, int want, List<Call> calls) {
        for (Call call : calls) {
            CHECKS.due(call.text(), world.ask(call), want);
        }
        same(calls.get(0).text() + " changes nothing", world.andAll(calls), world);
    }

    /** Nothing tells the two worlds apart. */
    static void same(String claim, World one, World other) {
        List<Integer> left = one.seen();
        List<Integer> right = other.seen();
        for (int place = 0; place < right.size(); place++) {
            if (!left.get(place).equals(right.get(place))) {
                CHECKS.due(claim + ": " + World.nameOfSeen(place), left.get(place), right.get(place));
                return;
            }
        }
        CHECKS.holds(claim, true);
    }
}
