import java.util.function.Supplier;

/** The edges of a unit's bytes in the terms, and of promise 16: octet. A test for each sentence. */
public final class UnitEdgesTest {
    private static final Check CHECK = new Check();

    /** The bytes from package to the last of ROOT's methods, of the class for 24 alone. */
    private static final int ROOT_METHOD_BYTES = 69;

    public static void main(String[] args) {
        octetWithoutSuchAClass();
        octetWithoutSuchAByte();
        unitBeginsWithSeventyAndOne();
        theSmallestPool();
        entriesInTheOrderInWhichTheyComeFirst();
        entriesComeOnce();
        packageAndNumber();
        interfacesOfTheList();
        methodsWithoutParameters();
        methodsWithThreeParameters();
        placesBehindLongs();
        eachPlainParameter();
        eachOtherParameter();
        aResultThatIsNoValue();
        eachPlainResult();
        eachOtherResult();
        nothingCaught();
        thrownAndCaught();
        joinedMethods();
        theLargestUnit();
        theLargestThrown();
        CHECK.end();
    }

    private static StandInMill withFaces(int count) {
        StandInMill x = new StandInMill();
        for (int f = 0; f < count; f++) {
            x.face(0, f, 0, true);
        }
        return x;
    }

    /** octet: "NONE if there is none such", the class. */
    private static void octetWithoutSuchAClass() {
        StandInMill x = withFaces(2);
        CHECK.due("0 of none", x.octet(0, 0), -1);
        Check.stand(x, 0, 24, 24);
        CHECK.due("a fault makes none", x.octet(0, 0), -1);
        Check.stand(x, 0, 24);
        CHECK.due("0 of one", x.octet(0, 0), 70);
        CHECK.due("1 of one", x.octet(1, 0), -1);
        for (int far : Check.farFrom(0)) {
            CHECK.due("class " + far, x.octet(far, 0), -1);
        }
    }

    /** octet: "NONE if there is none such", the byte. */
    private static void octetWithoutSuchAByte() {
        StandInMill x = withFaces(1);
        Check.stand(x, 0, 24);
        int length = x.about(0, 3);
        CHECK.due("the first", x.octet(0, 0), 70);
        CHECK.due("the last", x.octet(0, length - 1), 6);
        int[] none = {-1, -2, length, length + 1, 256, 4096, 65536, 1 << 24, Integer.MIN_VALUE, Integer.MIN_VALUE + 1,
            Integer.MAX_VALUE, Integer.MAX_VALUE - 1};
        for (int i : none) {
            CHECK.due("byte " + i, x.octet(0, i), -1);
        }
        for (int i = 0; i < length; i++) {
            CHECK.due("byte " + i + " is there", x.octet(0, i) >= 0, true);
        }
    }

    /** "ITS UNIT, bytes: 70, 1, the POOL" */
    private static void unitBeginsWithSeventyAndOne() {
        StandInMill x = withFaces(2);
        Check.stand(x, 0, 24);
        Check.stand(x, 0, 25, 24);
        for (int s = 0; s < 2; s++) {
            CHECK.due("first of " + s, x.octet(s, 0), 70);
            CHECK.due("second of " + s, x.octet(s, 1), 1);
        }
    }

    private static void bytes(String what, StandInMill x, int stand, int from, int... want) {
        for (int i = 0; i < want.length; i++) {
            CHECK.due(what + ", byte " + (from + i), x.octet(stand, from + i), want[i]);
        }
    }

    private static void lastBytes(String what, StandInMill x, int... want) {
        bytes(what, x, 0, x.about(0, 3) - want.length, want);
    }

    /** "POOL: how many entries, for each 1, a type; or 2, a type .., the number of its own method; or 3, a name." */
    private static void theSmallestPool() {
        StandInMill x = withFaces(1);
        Check.stand(x, 0, 24);
        bytes("the POOL", x, 0, 2, 14, 1, 24, 3, 26, 1, 5, 2, 7, 0, 1, 45, 1, 9, 1, 10, 3, 27, 1, 7, 1, 1, 2, 7, 1,
                1, 41, 3, 28, 2, 7, 2);
        CHECK.due("length", x.about(0, 3), 3 + 31 + 5 + ROOT_METHOD_BYTES);
    }

    private static void readAll(String what, Supplier<StandInMill> maker, int... faces) {
        new UnitReader(CHECK, what, new Renewed(maker), 0).read(faces);
    }

    /** "The entries are those that what is behind needs, in the order in which they come there first". */
    private static void entriesInTheOrderInWhichTheyComeFirst() {
        StandInMill x = withFaces(2);
        x.type(8);
        x.method(25, 3, 4 | 44 << 8 | 24 << 16);
        x.throwing(25, 0, 11);
        Check.stand(x, 0, 25);
        bytes("interface 25, ROOT's", x, 0, 2, 20, 1, 25, 3, 26);
        bytes("name, parameters, result, thrown, method; the BOX is there", x, 0, 34,
                3, 3, 1, 44, 1, 24, 1, 4, 1, 11, 2, 25, 0);
        lastBytes("the method", x, 14, 2, 15, 16, 17, 1, 18, 26, 1, 2, 3, 19, 5, 2,
                6, 7, 0, 8, 1, 10, 6, 7, 1, 8, 2, 10, 11, 13, 15, 14, 4, 15, 17, 18, 3, 5, 6, 18);
    }

    /** A name, a type or a method that comes twice has one entry; a type and a name of one number have two. */
    private static void entriesComeOnce() {
        StandInMill x = withFaces(1);
        x.method(24, 7, 7);
        x.method(24, 7, 7 | 7 << 8);
        x.method(24, 26, 24 | 24 << 8 | 24 << 16);
        Check.stand(x, 0, 24);
        CHECK.due("one name and three methods more", x.octet(0, 2), 14 + 4);
        bytes("they are", x, 0, 34, 3, 7, 2, 24, 0, 2, 24, 1, 2, 24, 2);
    }

    /** "package, number": of the class, not of an interface. */
    private static void packageAndNumber() {
        StandInMill x = new StandInMill();
        x.loader(0);
        x.face(0, 0, 3, false);
        x.face(0, 1, 1, true);
        Check.stand(x, 0, 24);
        Check.stand(x, 1, 24);
        Check.stand(x, 0, 25);
        bytes("the first of 3", x, 0, 34, 3, 0, 1, 0, 3);
        bytes("the second of 3", x, 1, 34, 3, 1, 1, 0, 3);
        bytes("the first of 4", x, 2, 34, 4, 0, 1, 0, 3);
    }

    /** "how many interfaces, for each its entry, how many methods" */
    private static void interfacesOfTheList() {
        StandInMill x = withFaces(12);
        Check.stand(x, 0, 35, 24, 30, 25);
        bytes("the POOL", x, 0, 2, 17, 1, 35, 1, 24, 1, 30, 1, 25, 3, 26);
        bytes("behind it", x, 0, 3 + 31 + 6, 4, 0, 4, 0, 1, 2, 3, 3, 4, 0, 5);
        CHECK.due("length", x.about(0, 3), 3 + 31 + 6 + 8 + ROOT_METHOD_BYTES);
    }

    private static StandInMill ofMethod(int types) {
        StandInMill x = withFaces(1);
        x.method(24, 0, types);
        Check.stand(x, 0, 24);
        return x;
    }

    /** "without parameters 4" */
    private static void methodsWithoutParameters() {
        lastBytes("none", ofMethod(0), 14, 0, 15, 0, 10, 1, 2, 3, 16, 4, 11, 12, 16, 17, 18, 2, 5, 6);
    }

    /** "else 5, how many, and for each parameter k: 6, 7, k, 8, the place .., 10" */
    private static void methodsWithThreeParameters() {
        lastBytes("one", ofMethod(7 << 8), 14, 1, 8, 15, 0, 17, 1, 2, 3, 16, 5, 1, 6, 7, 0, 8, 1, 10,
                11, 12, 16, 17, 18, 2, 5, 6);
        lastBytes("two", ofMethod(7 << 8 | 7 << 16), 14, 2, 8, 8, 15, 0, 23, 1, 2, 3, 16, 5, 2, 6, 7, 0, 8, 1, 10,
                6, 7, 1, 8, 2, 10, 11, 12, 16, 17, 18, 2, 5, 6);
        lastBytes("three", ofMethod(7 << 8 | 7 << 16 | 7 << 24), 14, 3, 8, 8, 8, 15, 0, 29, 1, 2, 3, 16, 5, 3,
                6, 7, 0, 8, 1, 10, 6, 7, 1, 8, 2, 10, 6, 7, 2, 8, 3, 10, 11, 12, 16, 17, 18, 2, 5, 6);
    }

    /** "the place (0 is taken; each parameter has one place, one of type 6 two)" */
    private static void placesBehindLongs() {
        int[][] rows = {
            {5, 5, 5, 1, 2, 3}, {6, 5, 5, 1, 3, 4}, {5, 6, 5, 1, 2, 4}, {5, 5, 6, 1, 2, 3}, {6, 6, 5, 1, 3, 5},
            {6, 5, 6, 1, 3, 4}, {5, 6, 6, 1, 2, 4}, {6, 6, 6, 1, 3, 5}, {46, 46, 46, 1, 2, 3}};
        for (int[] row : rows) {
            StandInMill x = ofMethod(row[0] << 8 | row[1] << 16 | row[2] << 24);
            int step = row[0] == 46 ? 6 : 8;
            int end = x.about(0, 3) - 8;
            for (int k = 0; k < 3; k++) {
                int place = end - (3 - k) * step + 4;
                String types = row[0] + " " + row[1] + " " + row[2];
                CHECK.due("place of " + k + " in " + types, x.octet(0, place), row[3 + k]);
            }
        }
    }

    /** "for PLAIN ones 9 and the type" */
    private static void eachPlainParameter() {
        for (int plain = 1; plain <= 6; plain++) {
            int entry = plain == 1 ? 9 : plain == 5 ? 2 : 15;
            int none = entry == 15 ? 16 : 15;
            lastBytes("PLAIN " + plain, ofMethod(plain << 8), 14, 1, entry, none, 0, 19, 1, 2, 3, none + 1, 5, 1,
                    6, 7, 0, 8, 1, 9, plain, 10, 11, 12, 16, 17, 18, 2, 5, 6);
        }
    }

    private static void eachOtherParameter() {
        int[] others = {7, 8, 9, 10, 24, 41, 42, 46};
        int[] entries = {8, 15, 5, 6, 0, 11, 15, 15};
        for (int i = 0; i < others.length; i++) {
            int none = entries[i] == 15 ? 16 : 15;
            lastBytes("type " + others[i], ofMethod(others[i] << 8), 14, 1, entries[i], none, 0, 17, 1, 2, 3, none + 1,
                    5, 1, 6, 7, 0, 8, 1, 10, 11, 12, 16, 17, 18, 2, 5, 6);
        }
    }

    /** "Then, by its result: 0: 12, 16". Its entry is that of type 0. */
    private static void aResultThatIsNoValue() {
        StandInMill x = ofMethod(0);
        bytes("entry 15 is type 0", x, 0, 34, 3, 0, 1, 0, 2, 24, 0);
        lastBytes("its CODE", x, 11, 12, 16, 17, 18, 2, 5, 6);
    }

    /** "PLAIN: 13, the entry of its BOX, 14 and the type, 15" */
    private static void eachPlainResult() {
        for (int plain = 1; plain <= 6; plain++) {
            boolean known = plain == 1 || plain == 5;
            int entry = plain == 1 ? 9 : plain == 5 ? 2 : 15;
            int method = known ? 15 : 16;
            int box = plain == 1 ? 11 : plain == 5 ? 4 : 17;
            StandInMill x = ofMethod(plain);
            lastBytes("PLAIN " + plain, x, 14, 0, entry, 0, 13, 1, 2, 3, method, 4, 11, 13, box, 14, plain, 15, 17, 18,
                    2, 5, 6);
            if (!known) {
                bytes("its entries", x, 0, 34, 3, 0, 1, plain, 2, 24, 0, 1, 40 + plain);
            }
        }
    }

    /** "else 13, its entry, 15" */
    private static void eachOtherResult() {
        int[] others = {7, 8, 9, 10, 24, 41, 42, 46};
        int[] entries = {8, 15, 5, 6, 0, 11, 15, 15};
        for (int i = 0; i < others.length; i++) {
            int method = entries[i] == 15 ? 16 : 15;
            lastBytes("type " + others[i], ofMethod(others[i]), 14, 0, entries[i], 0, 11, 1, 2, 3, method, 4,
                    11, 13, entries[i], 15, 17, 18, 2, 5, 6);
        }
    }

    /** "Then, if CAUGHT is not empty: 17, 18." */
    private static void nothingCaught() {
        StandInMill x = withFaces(1);
        x.method(24, 0, 0);
        x.throwing(24, 0, 8);
        Check.stand(x, 0, 24);
        lastBytes("empty", x, 14, 0, 15, 1, 16, 8, 1, 2, 3, 17, 4, 11, 12, 16, 0);
    }

    /** "how many it may THROW, for each its entry, .. how many are CAUGHT, for each its entry" */
    private static void thrownAndCaught() {
        StandInMill x = withFaces(1);
        x.type(7);
        x.type(8);
        x.type(12);
        x.method(24, 0, 0);
        x.throwing(24, 0, 13);
        x.throwing(24, 0, 11);
        x.throwing(24, 0, 12);
        Check.stand(x, 0, 24);
        bytes("the entries", x, 0, 34, 3, 0, 1, 0, 1, 13, 1, 11, 1, 12, 2, 24, 0);
        lastBytes("three, and one behind LOOSE and ERROR", x, 14, 0, 15, 3, 16, 17, 18, 10, 1, 2, 3, 19, 4, 11, 12, 16,
                17, 18, 3, 5, 6, 18);
    }

    /** "the entry of its method (that of the interface or ROOT that came first)" */
    private static void joinedMethods() {
        Supplier<StandInMill> maker = () -> {
            StandInMill x = withFaces(4);
            x.method(24, 28, 7);
            x.method(24, 0, 8);
            x.method(25, 0, 9);
            x.method(26, 0, 8);
            x.method(26, 28, 8);
            x.method(27, 1, 6 | 6 << 8 | 26 << 16 | 46 << 24);
            x.throwing(25, 0, 10);
            x.throwing(26, 1, 8);
            x.extend(27, 24);
            Check.stand(x, 0, 26, 25, 27, 24);
            return x;
        };
        StandInMill x = maker.get();
        CHECK.due("methods", x.about(0, 2), 7);
        CHECK.due("ROOT's stays", x.told(0, 2, 5), 7);
        CHECK.due("26's came first", x.told(0, 4, 5), 26);
        readAll("joined", maker, 26, 25, 27, 24);
    }

    /** Forty methods of three longs, as many names and types as there can be. */
    private static void theLargestUnit() {
        Supplier<StandInMill> maker = () -> {
            StandInMill x = new StandInMill();
            for (int type = 11; type <= 23; type++) {
                x.type(type == 11 ? 8 : type - 1);
            }
            for (int f = 0; f < 5; f++) {
                x.face(0, f, 1, true);
            }
            for (int f = 0; f < 7; f++) {
                x.face(0, f, 2, f > 0);
                for (int m = 0; m < (f == 6 ? 1 : 6); m++) {
                    int result = (f + m) % 2 == 0 ? 1 + m : 8 + 2 * f + m;
                    x.method(29 + f, (7 * f + m) % 26, result | 6 << 8 | 1 + f % 6 << 16 | 6 << 24);
                    x.throwing(29 + f, m, 23 - m);
                    x.throwing(29 + f, m, 11 + f);
                    x.throwing(29 + f, m, m == 5 ? 8 : 10);
                }
                x.extend(29 + f, f == 0 ? 24 : 28 + f);
            }
            Check.stand(x, 0, 35, 29);
            return x;
        };
        StandInMill x = maker.get();
        CHECK.due("forty", x.about(0, 2), 40);
        CHECK.due("of package 2", x.about(0, 0), 2);
        CHECK.due("more than 2000 bytes", x.about(0, 3) > 2000, true);
        CHECK.due("more than 80 entries", x.octet(0, 2) > 80, true);
        CHECK.due("no byte behind", x.octet(0, x.about(0, 3)), -1);
        readAll("the largest", maker, 35, 29);
    }

    /** A joined method that may THROW all sixteen classes, and one with many CAUGHT. */
    private static void theLargestThrown() {
        Supplier<StandInMill> maker = () -> {
            StandInMill x = new StandInMill();
            for (int type = 11; type <= 23; type++) {
                x.type(8);
            }
            for (int f = 0; f < 12; f++) {
                x.face(0, f, 0, true);
            }
            for (int f = 0; f < 8; f++) {
                x.method(24 + f, 0, 7);
                x.throwing(24 + f, 0, 8);
                x.throwing(24 + f, 0, 9 + 2 * f);
                x.throwing(24 + f, 0, 10 + 2 * f);
            }
            for (int f = 0; f < 4; f++) {
                x.extend(32 + f, 24 + 2 * f);
                x.extend(32 + f, 25 + 2 * f);
            }
            x.method(35, 1, 0);
            for (int type = 21; type <= 23; type++) {
                x.throwing(35, 0, type);
            }
            Check.stand(x, 0, 32, 33, 34, 35);
            return x;
        };
        CHECK.due("sixteen", maker.get().told(0, 3, 31) != 0, true);
        CHECK.due("five caught", maker.get().told(0, 4, 36) != 0, true);
        readAll("thrown", maker, 32, 33, 34, 35);
    }
}
