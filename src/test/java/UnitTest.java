/** Promise 16: octet, the whole unit of a class, byte for byte. */
public final class UnitTest {
    private static final Check CHECK = new Check();

    /** The POOL of a class of one interface, 24, as far as ROOT's methods fill it: entries 0 to 13. */
    private static final int[] ROOT_POOL = {
        1, 24, 3, 26, 1, 5, 2, 7, 0, 1, 45, 1, 9, 1, 10, 3, 27, 1, 7, 1, 1, 2, 7, 1, 1, 41, 3, 28, 2, 7, 2};

    private static final int[] ROOT_METHODS = {
        1, 0, 2, 0, 13, 1, 2, 3, 3, 4, 11, 13, 4, 14, 5, 15, 17, 18, 2, 5, 6,
        7, 1, 8, 9, 0, 20, 1, 2, 3, 10, 5, 1, 6, 7, 0, 8, 1, 10, 11, 13, 11, 14, 1, 15, 17, 18, 2, 5, 6,
        12, 0, 8, 0, 11, 1, 2, 3, 13, 4, 11, 13, 8, 15, 17, 18, 2, 5, 6};

    public static void main(String[] args) {
        bare();
        places();
        resultsAndThrown();
        severalInterfaces();
        theLongest();
        CHECK.end();
    }

    private static int[] joined(int[]... parts) {
        int length = 0;
        for (int[] part : parts) {
            length += part.length;
        }
        int[] whole = new int[length];
        int at = 0;
        for (int[] part : parts) {
            System.arraycopy(part, 0, whole, at, part.length);
            at += part.length;
        }
        return whole;
    }

    private static int[] of(int... octets) {
        return octets;
    }

    private static void unit(String what, StandInMill x, int stand, int[] want) {
        CHECK.due(what + ": length", x.about(stand, 3), want.length);
        for (int i = 0; i < want.length; i++) {
            CHECK.due(what + ": byte " + i, x.octet(stand, i), want[i]);
        }
        CHECK.due(what + ": behind", x.octet(stand, want.length), -1);
        CHECK.due(what + ": before", x.octet(stand, -1), -1);
    }

    private static void bare() {
        StandInMill x = new StandInMill();
        x.face(0, 0, 0, true);
        CHECK.due("no class", x.octet(0, 0), -1);
        Check.stand(x, 0, 24);
        unit("bare", x, 0, joined(of(70, 1, 14), ROOT_POOL, of(4, 0, 1, 0, 3), ROOT_METHODS));
        CHECK.due("no other class", x.octet(1, 0), -1);
        CHECK.due("no class below", x.octet(-1, 0), -1);
    }

    private static void places() {
        StandInMill x = new StandInMill();
        x.face(0, 0, 2, false);
        x.method(24, 4, 6 << 8 | 7 << 16 | 6 << 24);
        x.method(24, 5, 6 | 6 << 8 | 6 << 16 | 3 << 24);
        Check.stand(x, 0, 24);
        int[] pool = joined(ROOT_POOL, of(3, 4, 1, 6, 1, 0, 2, 24, 0, 3, 5, 1, 3, 2, 24, 1, 1, 46));
        int[] first = {14, 3, 15, 8, 15, 16, 0, 33, 1, 2, 3, 17, 5, 3,
            6, 7, 0, 8, 1, 9, 6, 10, 6, 7, 1, 8, 3, 10, 6, 7, 2, 8, 4, 9, 6, 10, 11, 12, 16, 17, 18, 2, 5, 6};
        int[] second = {18, 3, 15, 15, 19, 15, 0, 38, 1, 2, 3, 20, 5, 3,
            6, 7, 0, 8, 1, 9, 6, 10, 6, 7, 1, 8, 3, 9, 6, 10, 6, 7, 2, 8, 5, 9, 3, 10,
            11, 13, 21, 14, 6, 15, 17, 18, 2, 5, 6};
        unit("places", x, 0, joined(of(70, 1, 22), pool, of(2, 0, 1, 0, 5), ROOT_METHODS, first, second));
    }

    private static void resultsAndThrown() {
        StandInMill x = new StandInMill();
        x.type(8);
        x.face(0, 0, 0, true);
        x.method(24, 26, 24 | 24 << 8);
        x.throwing(24, 0, 11);
        x.throwing(24, 0, 9);
        x.method(24, 0, 45);
        x.throwing(24, 1, 11);
        x.throwing(24, 1, 8);
        Check.stand(x, 0, 24);
        int[] pool = joined(ROOT_POOL, of(1, 11, 2, 24, 0, 3, 0, 1, 8, 2, 24, 1));
        int[] first = {1, 1, 0, 0, 2, 14, 5, 18, 1, 2, 3, 15, 5, 1, 6, 7, 0, 8, 1, 10, 11, 13, 0, 15, 17, 18,
            3, 5, 6, 14};
        int[] second = {16, 0, 4, 2, 14, 17, 9, 1, 2, 3, 18, 4, 11, 13, 4, 15, 0};
        unit("results", x, 0, joined(of(70, 1, 19), pool, of(4, 0, 1, 0, 5), ROOT_METHODS, first, second));
    }

    private static void severalInterfaces() {
        StandInMill x = new StandInMill();
        x.face(0, 0, 3, true);
        x.face(0, 1, 3, false);
        x.face(0, 2, 3, false);
        x.method(25, 7, 0);
        x.method(26, 7, 0);
        Check.stand(x, 0, 26, 25);
        Check.stand(x, 0, 24, 26);
        CHECK.due("entry 1 is the second interface", x.octet(1, 6), 26);
        int poolBytes = 3 + 31 + 2 + 2 + 2 + 3;
        CHECK.due("entries", x.octet(1, 2), 18);
        int[] behind = {3, 1, 2, 0, 1, 4};
        for (int i = 0; i < behind.length; i++) {
            CHECK.due("behind the POOL " + i, x.octet(1, poolBytes + i), behind[i]);
        }
        int last = x.about(1, 3);
        int[] end = {15, 0, 16, 0, 10, 1, 2, 3, 17, 4, 11, 12, 16, 17, 18, 2, 6, 7};
        for (int i = 0; i < end.length; i++) {
            CHECK.due("the last method " + i, x.octet(1, last - end.length + i), end[i]);
        }
    }

    /** Forty methods, three long parameters and many classes: nothing of the unit may be cut off. */
    private static void theLongest() {
        StandInMill x = new StandInMill();
        for (int t = 0; t < 13; t++) {
            x.type(8);
        }
        for (int f = 0; f < 12; f++) {
            x.face(0, f, 0, true);
            for (int m = 0; m < 6; m++) {
                int second = f < 6 ? f + 1 : f - 5;
                x.method(24 + f, m, 6 | 6 << 8 | second << 16 | 6 << 24);
                x.throwing(24 + f, m, 8);
                x.throwing(24 + f, m, 9 + f);
                x.throwing(24 + f, m, 11 + f);
            }
        }
        x.face(0, 12, 0, true);
        for (int f = 2; f < 6; f++) {
            x.extend(24 + f, 24 + f - 2);
        }
        for (int f = 8; f < 12; f++) {
            x.extend(24 + f, 24 + f - 2);
        }
        CHECK.due("made", Check.stand(x, 0, 28, 29, 34, 35), 0);
        CHECK.due("methods", x.about(0, 2), 39);
        int length = x.about(0, 3);
        CHECK.due("long", length > 39 * (1 + 4 + 1 + 6 + 1 + 36 + 1) - 200, true);
        CHECK.due("the last byte: none is caught", x.octet(0, length - 1), 0);
        CHECK.due("five may be thrown", x.told(0, 38, 20) != 0, true);
    }
}
