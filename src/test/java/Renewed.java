import java.util.function.Supplier;

/** A mill for as many looks as one likes: it is made anew before its 512 calls are used up, as later ones are free. */
final class Renewed {
    private static final int LOOKS = 100;

    private final Supplier<StandInMill> maker;
    private StandInMill mill;
    private int left;

    /** The maker may use 412 calls. */
    Renewed(Supplier<StandInMill> maker) {
        this.maker = maker;
    }

    /** The mill for one more call, which must change nothing. */
    StandInMill mill() {
        if (left == 0) {
            mill = maker.get();
            left = LOOKS;
        }
        left--;
        return mill;
    }
}
