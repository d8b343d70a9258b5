/** Counts the answers that are not as due, for the tests. */
final class Check {
    /** What standing and calling answer here instead of throwing. */
    static final int OUT_OF_BOUNDS = -101;
    static final int ILLEGAL = -102;

    private int wrong;
    private int looked;

    void due(String call, long got, long want) {
        looked++;
        if (got != want) {
            wrong++;
            System.out.println(call + " answered " + got + ", due is " + want);
        }
    }

    void due(String call, boolean got, boolean want) {
        due(call, got ? 1 : 0, want ? 1 : 0);
    }

    static int stand(StandInMill mill, int loader, int... faces) {
        return standPacked(mill, loader, packed(faces));
    }

    static int standPacked(StandInMill mill, int loader, int list) {
        try {
            return mill.stand(loader, list);
        } catch (IndexOutOfBoundsException e) {
            return OUT_OF_BOUNDS;
        } catch (IllegalArgumentException e) {
            return ILLEGAL;
        }
    }

    static int call(StandInMill mill, int stand, int k, long a, long b, long c) {
        try {
            return mill.call(stand, k, a, b, c);
        } catch (IndexOutOfBoundsException e) {
            return OUT_OF_BOUNDS;
        } catch (IllegalArgumentException e) {
            return ILLEGAL;
        }
    }

    /** The bytes in one int, the first one lowest: a list of interfaces, or a result and its parameters. */
    static int packed(int... bytes) {
        int packed = 0;
        for (int i = 0; i < bytes.length; i++) {
            packed |= bytes[i] << 8 * i;
        }
        return packed;
    }

    /** Fails the run if an answer was wrong, or if nothing was looked at. */
    void end() {
        System.out.println(looked + " answers, " + wrong + " of them wrong");
        if (wrong != 0 || looked == 0) {
            System.exit(1);
        }
    }
}
