/** Seeds by which a lot falls as a test needs it. */
final class Lots {
    private static final int TRIED = 1000000;

    private Lots() { }

    /** What a draw gives, told what z has become by it. */
    static int given(int z) {
        return (int) ((z & 0xffffffffL) / 256);
    }

    /** A z from which the draws that follow have these rests by these numbers, one behind the other. */
    static int seed(int[] by, int... rests) {
        for (int v = 0; v < TRIED; v++) {
            if (falls(v, by, rests)) {
                return v;
            }
        }
        throw new IllegalStateException("no seed is found");
    }

    private static boolean falls(int v, int[] by, int[] rests) {
        int z = v;
        for (int i = 0; i < rests.length; i++) {
            z = Due.nextZ(z);
            if (given(z) % by[i] != rests[i]) {
                return false;
            }
        }
        return true;
    }

    /** What z is behind so many draws. */
    static int behind(int z, int draws) {
        int then = z;
        for (int i = 0; i < draws; i++) {
            then = Due.nextZ(then);
        }
        return then;
    }
}
