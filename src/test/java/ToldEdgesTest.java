/**
 * The edges of a stand-in class's methods in the terms: their order, what a joined one may THROW, CAUGHT; and of
 * promise 15: told. A test for each sentence.
 */
public final class ToldEdgesTest {
    private static final Check CHECK = new Check();

    public static void main(String[] args) {
        toldWithoutSuchAClass();
        toldWithoutSuchAMethod();
        toldOfAnotherWhat();
        toldParameters();
        toldThrownAndCaughtBeyondTheLast();
        rootsComeFirst();
        joinedOnesStayTheFirstOnes();
        anotherResultIsAnotherMethod();
        orderedBySignatures();
        orderedByComingWithinASignature();
        thrownSoFarIfBelowTheOthers();
        thrownOfTheOtherIfBelowOneSoFar();
        thrownThatAreThereAlready();
        thrownByOneAlone();
        thrownOfThree();
        thrownOfMoreThanThreeClasses();
        thrownOfAllClasses();
        thrownOfRootsIsNothing();
        thrownBehindTheSameByTwoWays();
        thrownOfEachResultApart();
        caughtAtFirst();
        caughtIsEmptyForThrown();
        caughtWithoutWhatIsNotThrown();
        caughtWithoutWhatIsBelowOne();
        caughtLosesWhatIsBelow();
        caughtOfManyClasses();
        caughtOfJoinedMethods();
        CHECK.end();
    }

    private static StandInMill withFaces(int count) {
        StandInMill x = new StandInMill();
        for (int f = 0; f < count; f++) {
            x.face(0, f, 0, true);
        }
        return x;
    }

    private static void row(String what, StandInMill x, int k, int from, int... want) {
        for (int i = 0; i < 16; i++) {
            CHECK.due(what + " " + i, x.told(0, k, from + i), i < want.length ? want[i] : 0);
        }
    }

    /** told: "NONE if there is none such", the class. */
    private static void toldWithoutSuchAClass() {
        StandInMill x = withFaces(1);
        int[] whats = {0, 1, 2, 5, 6, 16, 32};
        for (int what : whats) {
            CHECK.due("0 of none, what " + what, x.told(0, 0, what), -1);
        }
        Check.stand(x, 0, 24);
        for (int what : whats) {
            CHECK.due("1 of one, what " + what, x.told(1, 0, what), -1);
            for (int far : Check.farFrom(0)) {
                CHECK.due("class " + far + ", what " + what, x.told(far, 0, what), -1);
            }
        }
        CHECK.due("0 of one", x.told(0, 0, 0), 26);
    }

    /** told: "NONE if there is none such", the method. */
    private static void toldWithoutSuchAMethod() {
        StandInMill x = withFaces(1);
        x.method(24, 9, 5);
        Check.stand(x, 0, 24);
        CHECK.due("the lowest", x.told(0, 0, 0), 26);
        CHECK.due("the highest", x.told(0, 3, 0), 9);
        int[] whats = {0, 2, 6, 16, 32};
        for (int what : whats) {
            CHECK.due("one beyond, what " + what, x.told(0, 4, what), -1);
            for (int far : Check.farFrom(3)) {
                CHECK.due("method " + far + ", what " + what, x.told(0, far, what), -1);
            }
        }
    }

    /** told: "or for another what": 7 to 15, and what is beyond 0 and 47. */
    private static void toldOfAnotherWhat() {
        StandInMill x = withFaces(1);
        x.method(24, 9, 5 | 6 << 8 | 7 << 16 | 8 << 24);
        x.throwing(24, 0, 9);
        Check.stand(x, 0, 24);
        int[] want = {9, 5, 6, 7, 8, 24, 0};
        for (int what = 0; what <= 6; what++) {
            CHECK.due("what " + what, x.told(0, 3, what), want[what]);
        }
        for (int what = 7; what <= 15; what++) {
            CHECK.due("what " + what, x.told(0, 3, what), -1);
        }
        row("thrown", x, 3, 16, 9);
        row("caught", x, 3, 32, 9, 10);
        CHECK.due("what 48", x.told(0, 3, 48), -1);
        CHECK.due("what 49", x.told(0, 3, 49), -1);
        int[] seeds = {0, 6, 16, 31, 32, 47};
        for (int seed : seeds) {
            for (int far : Check.farFrom(seed)) {
                CHECK.due("what " + far, x.told(0, 3, far), -1);
            }
        }
    }

    /** told: "2 .. 4: its parameters (0 for none)". */
    private static void toldParameters() {
        StandInMill x = withFaces(1);
        int[] parameters = {1, 24, 46};
        for (int count = 0; count <= 3; count++) {
            int types = 0;
            for (int p = 0; p < count; p++) {
                types |= parameters[p] << 8 + 8 * p;
            }
            x.method(24, 0, types);
        }
        Check.stand(x, 0, 24);
        for (int count = 0; count <= 3; count++) {
            CHECK.due("result of " + count, x.told(0, 3 + count, 1), 0);
            for (int p = 0; p < 3; p++) {
                CHECK.due(p + " of " + count, x.told(0, 3 + count, 2 + p), p < count ? parameters[p] : 0);
            }
        }
    }

    /** told: "16 + i: .., 32 + i: .. (i 0 .. 15; 0 for none)". */
    private static void toldThrownAndCaughtBeyondTheLast() {
        StandInMill x = withFaces(1);
        x.method(24, 0, 0);
        x.method(24, 1, 0);
        x.throwing(24, 0, 10);
        x.throwing(24, 1, 8);
        Check.stand(x, 0, 24);
        row("one thrown", x, 3, 16, 10);
        row("two caught", x, 3, 32, 9, 10);
        row("THROWN thrown", x, 4, 16, 8);
        row("none caught", x, 4, 32);
        row("ROOT's throw none", x, 0, 16);
    }

    private static void method(String what, StandInMill x, int k, int name, int result, int owner, int number) {
        CHECK.due(what + ": name", x.told(0, k, 0), name);
        CHECK.due(what + ": result", x.told(0, k, 1), result);
        CHECK.due(what + ": owner", x.told(0, k, 5), owner);
        CHECK.due(what + ": number", x.told(0, k, 6), number);
    }

    /** "Its methods: ROOT's three, then for each interface of the list its METHODS". */
    private static void rootsComeFirst() {
        StandInMill x = withFaces(3);
        x.method(24, 2, 5);
        x.method(25, 1, 5);
        x.method(26, 0, 5);
        Check.stand(x, 0, 26, 24, 25);
        CHECK.due("six", x.about(0, 2), 6);
        method("0", x, 0, 26, 5, 7, 0);
        method("1", x, 1, 27, 1, 7, 1);
        method("2", x, 2, 28, 7, 7, 2);
        method("3", x, 3, 0, 5, 26, 0);
        method("4", x, 4, 2, 5, 24, 0);
        method("5", x, 5, 1, 5, 25, 0);
    }

    /** "one whose SIGNATURE and result are those of an earlier one is this (which stays the one .. that came first)" */
    private static void joinedOnesStayTheFirstOnes() {
        StandInMill x = withFaces(3);
        x.method(24, 0, 5);
        x.method(24, 1, 5 | 5 << 8);
        x.method(25, 28, 7);
        x.method(25, 27, 1 | 7 << 8);
        x.method(25, 26, 5);
        x.method(25, 1, 5 | 5 << 8);
        x.method(26, 0, 5);
        x.method(26, 1, 5 | 5 << 8);
        Check.stand(x, 0, 26, 25, 24);
        CHECK.due("five", x.about(0, 2), 5);
        method("ROOT's 0", x, 0, 26, 5, 7, 0);
        method("ROOT's 1", x, 1, 27, 1, 7, 1);
        method("ROOT's 2", x, 2, 28, 7, 7, 2);
        method("26's 0", x, 3, 0, 5, 26, 0);
        method("26's 1", x, 4, 1, 5, 26, 1);
    }

    private static void anotherResultIsAnotherMethod() {
        StandInMill x = withFaces(4);
        x.method(24, 0, 8);
        x.method(25, 0, 9);
        x.method(26, 0, 8);
        x.method(27, 0, 9);
        Check.stand(x, 0, 24, 25, 26, 27);
        CHECK.due("five", x.about(0, 2), 5);
        method("the one", x, 3, 0, 8, 24, 0);
        method("the other", x, 4, 0, 9, 25, 0);
    }

    /** "They are ordered by SIGNATURES, as these come first". */
    private static void orderedBySignatures() {
        StandInMill x = withFaces(2);
        x.method(24, 5, 8);
        x.method(24, 5, 8 | 5 << 8);
        x.method(24, 3, 8);
        x.method(25, 3, 9);
        x.method(25, 5, 9 | 5 << 8);
        x.method(25, 5, 9);
        x.method(25, 28, 9);
        x.method(25, 0, 9);
        Check.stand(x, 0, 24, 25);
        CHECK.due("eleven", x.about(0, 2), 11);
        method("ROOT's", x, 2, 28, 7, 7, 2);
        method("beside ROOT's", x, 3, 28, 9, 25, 3);
        method("the first", x, 4, 5, 8, 24, 0);
        method("beside the first", x, 5, 5, 9, 25, 2);
        method("the second", x, 6, 5, 8, 24, 1);
        method("beside the second", x, 7, 5, 9, 25, 1);
        method("the third", x, 8, 3, 8, 24, 2);
        method("beside the third", x, 9, 3, 9, 25, 0);
        method("the last", x, 10, 0, 9, 25, 4);
    }

    /** "of one SIGNATURE as they come": not as one is BELOW another. */
    private static void orderedByComingWithinASignature() {
        StandInMill x = withFaces(4);
        x.type(9);
        int[] results = {8, 11, 7, 9};
        for (int f = 0; f < 4; f++) {
            x.method(24 + f, 1, results[f]);
        }
        Check.stand(x, 0, 24, 25, 26, 27);
        for (int f = 0; f < 4; f++) {
            method("result " + results[f], x, 3 + f, 1, results[f], 24 + f, 0);
        }
        StandInMill y = withFaces(4);
        y.type(9);
        for (int f = 0; f < 4; f++) {
            y.method(24 + f, 1, results[f]);
        }
        Check.stand(y, 0, 27, 26, 25, 24);
        for (int f = 0; f < 4; f++) {
            method("turned, result " + results[f], y, 6 - f, 1, results[f], 24 + f, 0);
        }
    }

    /**
     * The parents of 11 to 20: 11 and 14 are of THROWN, 12 and 13 of 11, 19 of 12, 15 and 20 of 14, 18 of LOOSE, 16 of
     * ROOT, 17 of 16.
     */
    private static final int[] PARENTS = {8, 11, 11, 8, 14, 7, 16, 9, 12, 14};

    /** A class of interfaces with one method each, all of one SIGNATURE and result, that may THROW these. */
    private static StandInMill joined(int[]... rows) {
        StandInMill x = new StandInMill();
        for (int parent : PARENTS) {
            x.type(parent);
        }
        int list = 0;
        for (int f = 0; f < rows.length; f++) {
            x.face(0, f, 0, true);
            x.method(24 + f, 0, 7);
            for (int type : rows[f]) {
                x.throwing(24 + f, 0, type);
            }
            list |= 24 + f << 8 * f;
        }
        CHECK.due("made", Check.standPacked(x, 0, list), 0);
        CHECK.due("one method", x.about(0, 2), 4);
        return x;
    }

    private static int[] of(int... classes) {
        return classes;
    }

    private static void thrown(int[] first, int[] second, int... want) {
        row("thrown", joined(first, second), 3, 16, want);
    }

    /** "first those of what it could THROW so far that are BELOW one that the other can, in order" */
    private static void thrownSoFarIfBelowTheOthers() {
        thrown(of(12), of(11), 12);
        thrown(of(19), of(11), 19);
        thrown(of(13, 12), of(11), 13, 12);
        thrown(of(12, 14, 13), of(11), 12, 13);
        thrown(of(15, 12), of(14, 11), 15, 12);
        thrown(of(12), of(13));
        thrown(of(9, 10), of(8), 9, 10);
        thrown(of(17), of(16), 17);
        thrown(of(17), of(8));
    }

    /** "then those of the other's that are BELOW one that it could so far" */
    private static void thrownOfTheOtherIfBelowOneSoFar() {
        thrown(of(11), of(12), 12);
        thrown(of(11), of(19), 19);
        thrown(of(11), of(13, 12), 13, 12);
        thrown(of(11), of(12, 14, 13), 12, 13);
        thrown(of(8), of(14, 9, 11), 14, 9, 11);
        thrown(of(11, 15), of(14, 12), 15, 12);
        thrown(of(12, 14), of(15, 11), 12, 15);
        thrown(of(14, 11), of(12, 15, 13), 12, 15, 13);
    }

    /** "and are not there yet" */
    private static void thrownThatAreThereAlready() {
        thrown(of(11), of(11), 11);
        thrown(of(8, 9, 10), of(10, 9, 8), 8, 9, 10);
        thrown(of(11, 12), of(12, 11), 11, 12);
        thrown(of(12, 11), of(11, 13), 12, 11, 13);
        thrown(of(8, 11), of(12, 8), 8, 11, 12);
        thrown(of(16), of(16), 16);
    }

    private static void thrownByOneAlone() {
        thrown(of(), of());
        thrown(of(8, 9, 11), of());
        thrown(of(), of(8, 9, 11));
        thrown(of(9), of(10));
        thrown(of(11, 16), of(14, 9));
        row("it alone", joined(of(14, 9, 8)), 3, 16, 14, 9, 8);
    }

    /** A third one meets what is left of the first two, not what each could. */
    private static void thrownOfThree() {
        row("narrower", joined(of(8), of(11, 14), of(12, 9)), 3, 16, 12);
        row("nothing is left", joined(of(8), of(11), of(14)), 3, 16);
        row("nothing comes back", joined(of(9), of(10), of(8)), 3, 16);
        row("the fourth", joined(of(8), of(8), of(8), of(15)), 3, 16, 15);
        row("in order", joined(of(11), of(13, 12), of(8, 19), of(8, 12)), 3, 16, 13, 12, 19);
    }

    private static void thrownOfMoreThanThreeClasses() {
        row("four", joined(of(14, 12, 13), of(20, 15, 11)), 3, 16, 12, 13, 20, 15);
        row("five", joined(of(8, 11, 12), of(8, 13, 14)), 3, 16, 8, 11, 12, 13, 14);
        row("nine", joined(of(8, 11, 12), of(8, 13, 14), of(8, 15, 18), of(8, 9, 10)), 3, 16,
                8, 11, 12, 13, 14, 15, 18, 9, 10);
    }

    /** Sixteen classes, the most that told can tell: 8 interfaces' methods come together through parents. */
    private static void thrownOfAllClasses() {
        StandInMill x = new StandInMill();
        for (int type = 11; type <= 23; type++) {
            x.type(8);
        }
        for (int f = 0; f < 12; f++) {
            x.face(0, f, 0, true);
        }
        for (int f = 0; f < 8; f++) {
            x.method(24 + f, 0, 7);
            x.throwing(24 + f, 0, 8);
            x.throwing(24 + f, 0, 23 - 2 * f);
            x.throwing(24 + f, 0, f == 7 ? 8 : 22 - 2 * f);
        }
        for (int f = 0; f < 4; f++) {
            x.extend(32 + f, 24 + 2 * f);
            x.extend(32 + f, 25 + 2 * f);
        }
        CHECK.due("made", Check.stand(x, 0, 32, 33, 34, 35), 0);
        row("sixteen", x, 3, 16, 8, 23, 22, 21, 20, 19, 18, 17, 16, 15, 14, 13, 12, 11, 10, 9);
        row("none caught", x, 3, 32);
    }

    private static void thrownOfRootsIsNothing() {
        StandInMill x = withFaces(1);
        int[] names = {26, 27, 28};
        int[] types = {5, 1 | 7 << 8, 7};
        for (int m = 0; m < 3; m++) {
            x.method(24, names[m], types[m]);
            x.throwing(24, m, 8);
            x.throwing(24, m, 9);
        }
        Check.stand(x, 0, 24);
        for (int k = 0; k < 3; k++) {
            row("thrown", x, k, 16);
            row("caught", x, k, 32, 9, 10);
        }
    }

    private static void thrownBehindTheSameByTwoWays() {
        StandInMill x = withFaces(4);
        x.type(8);
        x.type(11);
        x.method(24, 0, 7);
        x.throwing(24, 0, 11);
        x.throwing(24, 0, 9);
        x.method(25, 0, 7);
        x.throwing(25, 0, 12);
        x.extend(26, 24);
        x.extend(27, 25);
        x.extend(27, 24);
        CHECK.due("made", Check.stand(x, 0, 26, 27, 24), 0);
        row("it is as narrow as it was", x, 3, 16, 12);
        CHECK.due("it stays the first one's", x.told(0, 3, 5), 24);
    }

    /** Methods of one SIGNATURE that have different results are not joined. */
    private static void thrownOfEachResultApart() {
        StandInMill x = withFaces(3);
        x.method(24, 0, 7);
        x.throwing(24, 0, 9);
        x.method(25, 0, 8);
        x.throwing(25, 0, 10);
        x.method(26, 0, 7);
        x.throwing(26, 0, 8);
        Check.stand(x, 0, 24, 25, 26);
        row("the first", x, 3, 16, 9);
        row("the second", x, 4, 16, 10);
    }

    private static void caught(int[] thrown, int... want) {
        row("caught", joined(thrown), 3, 32, want);
    }

    /** "CAUGHT of a method: a row, LOOSE and ERROR at first". */
    private static void caughtAtFirst() {
        caught(of(), 9, 10);
    }

    /** "THROWN: the row is empty, and that is all". */
    private static void caughtIsEmptyForThrown() {
        caught(of(8));
        caught(of(8, 11, 9));
        caught(of(11, 8, 14));
        caught(of(11, 14, 8));
        caught(of(16, 8));
    }

    /** "one that is not BELOW THROWN: nothing" */
    private static void caughtWithoutWhatIsNotThrown() {
        caught(of(16), 9, 10);
        caught(of(17), 9, 10);
        caught(of(16, 11, 17), 9, 10, 11);
    }

    /** "one that is BELOW one of the row: nothing" */
    private static void caughtWithoutWhatIsBelowOne() {
        caught(of(9), 9, 10);
        caught(of(10), 9, 10);
        caught(of(10, 9), 9, 10);
        caught(of(18), 9, 10);
        caught(of(11, 12), 9, 10, 11);
        caught(of(11, 12, 13), 9, 10, 11);
        caught(of(11, 19), 9, 10, 11);
    }

    /** "else those of the row that are BELOW it go, and it comes to the end" */
    private static void caughtLosesWhatIsBelow() {
        caught(of(14), 9, 10, 14);
        caught(of(12, 11), 9, 10, 11);
        caught(of(12, 13), 9, 10, 12, 13);
        caught(of(13, 12), 9, 10, 13, 12);
        caught(of(12, 13, 11), 9, 10, 11);
        caught(of(12, 14, 11), 9, 10, 14, 11);
        caught(of(19, 14, 12), 9, 10, 14, 12);
        caught(of(15, 12, 14), 9, 10, 12, 14);
        caught(of(19, 12, 11), 9, 10, 11);
    }

    private static void caughtOfManyClasses() {
        row("four more", joined(of(14, 12, 13), of(20, 15, 11)), 3, 32, 9, 10, 12, 13, 20, 15);
        StandInMill x = joined(of(11, 14, 18), of(12, 13, 14), of(19, 13, 8));
        row("thrown", x, 3, 16, 14, 12, 13, 19);
        row("caught", x, 3, 32, 9, 10, 14, 12, 13);
    }

    private static void caughtOfJoinedMethods() {
        row("THROWN by one alone is none", joined(of(8), of(11)), 3, 32, 9, 10, 11);
        row("THROWN by both is", joined(of(11, 8), of(14, 8)), 3, 32);
        row("none is left", joined(of(11), of(14)), 3, 32, 9, 10);
    }
}
