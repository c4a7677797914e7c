/** Numbers that name nothing: just below, just above, what a mask would fold back, and far away. */
final class Wrong {
    private static final int MIN = Integer.MIN_VALUE;
    private static final int MAX = Integer.MAX_VALUE;

    private Wrong() {
    }

    static int[] parameters() {
        return new int[] {-1, 32, 33, 64, -32, 256, MIN, MAX};
    }

    static int[] events() {
        return new int[] {-1, 32, 33, 64, -32, 99, 256, MIN, MAX};
    }

    static int[] ids() {
        return new int[] {-1, 256, 257, 512, -256, 65536, MIN, MAX};
    }

    static int[] whats(int bound) {
        return new int[] {-1, bound, bound + 1, 8, 256, -256, MIN, MAX};
    }
}
