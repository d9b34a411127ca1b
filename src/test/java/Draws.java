/** The generator of the document, worked out in numbers without overflow and without shifts. */
final class Draws {
    private static final long STATES = 1L << 32;

    private Draws() { }

    static int next(int state) {
        java.math.BigInteger wide = java.math.BigInteger.valueOf(Math.floorMod((long) state, STATES))
                .multiply(java.math.BigInteger.valueOf(1103515245)).add(java.math.BigInteger.valueOf(12345));
        long kept = wide.mod(java.math.BigInteger.valueOf(STATES)).longValueExact();
        return (int) (kept >= STATES / 2 ? kept - STATES : kept);
    }

    static int number(int newState) {
        return (int) (Math.floorMod((long) newState, STATES) / 65536 % 32768);
    }

    /** The rest of the first number by 100, which the marking percentage is compared with. */
    static int firstRest(int seed) {
        return number(next(seed)) % 100;
    }

    /** A seed from this one upwards whose first number has this rest by 100. */
    static int seedFrom(int start, int rest) {
        int seed = start;
        while (firstRest(seed) != rest) {
            seed++;
        }
        return seed;
    }

    static int seedWith(int rest) {
        return seedFrom(0, rest);
    }
}
