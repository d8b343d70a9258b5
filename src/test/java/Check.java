/** Counts the answers that are not as due, for the tests. */
final class Check {
    /** What standing and calling answer here instead of throwing. */
    static final int OUT_OF_BOUNDS = -101;
    static final int ILLEGAL = -102;

    private int wrong;
    private int looked;

    void due(String call, long got, long want) {
        looked++;
        if (got != want) {
            wrong++;
            System.out.println(call + " answered " + got + ", due is " + want);
        }
    }

    void due(String call, boolean got, boolean want) {
        due(call, got ? 1 : 0, want ? 1 : 0);
    }

    static int stand(StandInMill mill, int loader, int... faces) {
        return standPacked(mill, loader, packed(faces));
    }

    static int standPacked(StandInMill mill, int loader, int list) {
        try {
            return mill.stand(loader, list);
        } catch (IndexOutOfBoundsException e) {
            return OUT_OF_BOUNDS;
        } catch (IllegalArgumentException e) {
            return ILLEGAL;
        }
    }

    static int call(StandInMill mill, int stand, int k, long a, long b, long c) {
        try {
            return mill.call(stand, k, a, b, c);
        } catch (IndexOutOfBoundsException e) {
            return OUT_OF_BOUNDS;
        } catch (IllegalArgumentException e) {
            return ILLEGAL;
        }
    }

    /** The bytes in one int, the first one lowest: a list of interfaces, or a result and its parameters. */
    static int packed(int... bytes) {
        int packed = 0;
        for (int i = 0; i < bytes.length; i++) {
            packed |= bytes[i] << 8 * i;
        }
        return packed;
    }

    /**
     * Ints that are the number of nothing: the smallest and largest ones, those next to 0, and those whose lowest bits
     * alone are the ones of a number that there is (0 to 63).
     */
    static int[] farFrom(int number) {
        return new int[] {
            Integer.MIN_VALUE, Integer.MIN_VALUE + 1, Integer.MIN_VALUE + number, number - 65536, number - 256, -2, -1,
            number + 64, number + 128, number + 256, number + 65536, number + (1 << 24), number + (1 << 30),
            Integer.MAX_VALUE - 1, Integer.MAX_VALUE};
    }

    /** The same for longs; NONE is not among them. */
    static long[] farFrom(long number) {
        return new long[] {
            Long.MIN_VALUE, Long.MIN_VALUE + 1, Long.MIN_VALUE + number, number - (1L << 32), Integer.MIN_VALUE, -3, -2,
            number + 64, number + 256, number + 65536, number + (1L << 31), number + (1L << 32), (1L << 32) - 1,
            number + (1L << 62), Integer.MAX_VALUE, Long.MAX_VALUE - 1, Long.MAX_VALUE};
    }

    /** Fails the run if an answer was wrong, or if nothing was looked at. */
    void end() {
        System.out.println(looked + " answers, " + wrong + " of them wrong");
        if (wrong != 0 || looked == 0) {
            System.exit(1);
        }
    }
}
