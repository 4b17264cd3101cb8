/** Numbers drawn by a rule, so that every run of a test is the same. */
public final class Draws {
    private static final int[] EDGES = {
        Integer.MIN_VALUE, Integer.MIN_VALUE + 1, -1000000001, -100000, -2, -1, 0, 1, 2, 3, 4, 5, 6, 7, 8, 9, 10, 11, 20,
        21, 32, 39, 40, 41, 50, 60, 61, 69, 70, 99, 100, 255, 999, 1000, 9999, 10000, 99999, 100000, 65536,
        Integer.MAX_VALUE - 1, Integer.MAX_VALUE,
    };

    private long z;

    Draws(long seed) {
        z = seed;
    }

    long word() {
        z += 0x9E3779B97F4A7C15L;
        long v = z;
        v = (v ^ v >>> 30) * 0xBF58476D1CE4E5B9L;
        v = (v ^ v >>> 27) * 0x94D049BB133111EBL;
        return v ^ v >>> 31;
    }

    /** A number from 0 to most. */
    int upTo(int most) {
        return (int) Long.remainderUnsigned(word(), most + 1L);
    }

    int between(int least, int most) {
        return least + upTo(most - least);
    }

    boolean oneIn(int n) {
        return upTo(n - 1) == 0;
    }

    int anyNumber() {
        return oneIn(3) ? (int) word() : EDGES[upTo(EDGES.length - 1)];
    }
}
