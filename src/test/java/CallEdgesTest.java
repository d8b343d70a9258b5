/** The edges of a CALL's parameters in the terms, and of promises 18 and 20: call, seen. A test for each sentence. */
public final class CallEdgesTest {
    private static final Check CHECK = new Check();
    private static final int BAD = Check.OUT_OF_BOUNDS;
    private static final int ILLEGAL = Check.ILLEGAL;

    public static void main(String[] args) {
        callWithoutSuchAClass();
        callWithoutSuchAMethod();
        callTheLastOfForty();
        callWithNoSuchObject();
        callWithNoSuchObjectInEachPlace();
        callWithTheLastObject();
        callWithAnObjectThatIsNotBelow();
        callWithNone();
        callTakesTheFirstLongsAlone();
        noSuchClassOrMethodGoesFirst();
        truths();
        bytes();
        characters();
        shorts();
        ints();
        longs();
        plainOnesTakeAnyLong();
        boxesComeToNoNumber();
        seenAtFirst();
        seenMethod();
        seenHowManyParameters();
        seenObjects();
        seenNone();
        seenOfAnotherWhat();
        seenInTheLatestCall();
        seenWhateverTheOutcome();
        callThatThrowsLeavesWhatWasSeen();
        CHECK.end();
    }

    /** A class, 0, of one interface with a method, 3, of these types. */
    private static StandInMill ofMethod(int... types) {
        StandInMill x = new StandInMill();
        x.face(0, 0, 0, true);
        x.type(7);
        x.type(8);
        x.type(12);
        CHECK.due("the method", x.method(24, 0, Check.packed(types)), 0);
        CHECK.due("the class", Check.stand(x, 0, 24), 0);
        return x;
    }

    private static void seen(String what, StandInMill x, long... want) {
        for (int part = 0; part < 9; part++) {
            CHECK.due(what + ": seen " + part, x.seen(part), want[part]);
        }
    }

    /** call: "IndexOutOfBoundsException: there is no such class". */
    private static void callWithoutSuchAClass() {
        StandInMill x = new StandInMill();
        x.face(0, 0, 0, true);
        CHECK.due("0 of none", Check.call(x, 0, 0, 0, 0, 0), BAD);
        Check.stand(x, 0, 24, 24);
        CHECK.due("a fault makes none", Check.call(x, 0, 0, 0, 0, 0), BAD);
        Check.stand(x, 0, 24);
        CHECK.due("0 of one", Check.call(x, 0, 0, 0, 0, 0), 2);
        CHECK.due("1 of one", Check.call(x, 1, 0, 0, 0, 0), BAD);
        for (int far : Check.farFrom(0)) {
            CHECK.due("class " + far, Check.call(x, far, 0, 0, 0, 0), BAD);
        }
    }

    /** call: "or method". */
    private static void callWithoutSuchAMethod() {
        StandInMill x = ofMethod(0);
        CHECK.due("the lowest", Check.call(x, 0, 0, 0, 0, 0), 2);
        CHECK.due("the highest", Check.call(x, 0, 3, 0, 0, 0), 0);
        CHECK.due("one beyond", Check.call(x, 0, 4, 0, 0, 0), BAD);
        for (int far : Check.farFrom(3)) {
            CHECK.due("method " + far, Check.call(x, 0, far, 0, 0, 0), BAD);
        }
    }

    private static void callTheLastOfForty() {
        StandInMill x = new StandInMill();
        for (int f = 0; f < 7; f++) {
            x.face(0, f, 0, true);
            for (int m = 0; m < (f < 6 ? 6 : 1); m++) {
                x.method(24 + f, m, 0 | (f + 1) << 8);
            }
            x.extend(24 + f, 23 + f);
        }
        Check.stand(x, 0, 30);
        CHECK.due("39", Check.call(x, 0, 39, -1, 0, 0), 0);
        seen("39", x, 24, 5, 1, 41, -1, -1, 1, -1, -1);
        CHECK.due("40", Check.call(x, 0, 40, -1, 0, 0), BAD);
        CHECK.due("3", Check.call(x, 0, 3, -1, 0, 0), 0);
        seen("3", x, 30, 0, 1, -1, -1, -1, 0, -1, -1);
    }

    /** call: "IllegalArgumentException: a parameter is no such object". */
    private static void callWithNoSuchObject() {
        StandInMill x = ofMethod(0, 7);
        CHECK.due("0 of none", Check.call(x, 0, 3, 0, 0, 0), ILLEGAL);
        for (int i = 0; i < 3; i++) {
            CHECK.due("one beyond " + i, Check.call(x, 0, 3, i, 0, 0), ILLEGAL);
            x.object(8, 0);
            CHECK.due("the highest " + i, Check.call(x, 0, 3, i, 0, 0), 0);
        }
        for (long far : Check.farFrom(0L)) {
            CHECK.due("object " + far, Check.call(x, 0, 3, far, 0, 0), ILLEGAL);
        }
        for (long far : Check.farFrom(2L)) {
            CHECK.due("object " + far, Check.call(x, 0, 3, far, 0, 0), ILLEGAL);
        }
        CHECK.due("a NONE of 32 bits", Check.call(x, 0, 3, 0xffffffffL, 0, 0), ILLEGAL);
    }

    private static void callWithNoSuchObjectInEachPlace() {
        StandInMill x = ofMethod(0, 7, 7, 7);
        x.object(8, 0);
        CHECK.due("all", Check.call(x, 0, 3, 0, 0, 0), 0);
        long[] wrong = {1, -2, 1L << 32, Long.MIN_VALUE, Long.MAX_VALUE};
        for (long far : wrong) {
            CHECK.due("first " + far, Check.call(x, 0, 3, far, 0, 0), ILLEGAL);
            CHECK.due("second " + far, Check.call(x, 0, 3, 0, far, 0), ILLEGAL);
            CHECK.due("third " + far, Check.call(x, 0, 3, 0, 0, far), ILLEGAL);
            CHECK.due("all " + far, Check.call(x, 0, 3, far, far, far), ILLEGAL);
        }
    }

    private static void callWithTheLastObject() {
        StandInMill x = ofMethod(0, 7);
        for (int i = 0; i < 32; i++) {
            x.object(46, 100 + i);
        }
        CHECK.due("31", Check.call(x, 0, 3, 31, 0, 0), 0);
        CHECK.due("its value", x.seen(6), 131);
        CHECK.due("32", Check.call(x, 0, 3, 32, 0, 0), ILLEGAL);
        CHECK.due("33", Check.call(x, 0, 3, 33, 0, 0), ILLEGAL);
    }

    /** "that must be of a type BELOW the parameter's". Class 11 is of ROOT, 12 of THROWN, 13 of 12. */
    private static void callWithAnObjectThatIsNotBelow() {
        int[] parameters = {7, 8, 9, 11, 12, 13, 24, 41, 45, 46};
        int[] types = {8, 9, 10, 11, 12, 13, 41, 45, 46};
        for (int parameter : parameters) {
            StandInMill x = ofMethod(0, parameter);
            for (int i = 0; i < types.length; i++) {
                x.object(types[i], 5);
                boolean below = parameter == 7 || types[i] == parameter
                        || parameter == 8 && (types[i] == 9 || types[i] == 10 || types[i] == 12 || types[i] == 13)
                        || parameter == 12 && types[i] == 13;
                CHECK.due("object of " + types[i] + " for " + parameter, Check.call(x, 0, 3, i, 0, 0),
                        below ? 0 : ILLEGAL);
            }
        }
    }

    /** "another one the object with this number, or NONE" */
    private static void callWithNone() {
        int[] parameters = {7, 8, 13, 24, 41, 46};
        for (int parameter : parameters) {
            StandInMill x = ofMethod(0, parameter, parameter, parameter);
            CHECK.due("NONE for " + parameter, Check.call(x, 0, 3, -1, -1, -1), 0);
            seen("NONE for " + parameter, x, 24, 0, 3, -1, -1, -1, 0, 0, 0);
            CHECK.due("-2 for " + parameter, Check.call(x, 0, 3, -1, -1, -2), ILLEGAL);
        }
    }

    /** "three longs, of which its parameters take the first ones" */
    private static void callTakesTheFirstLongsAlone() {
        long[] any = {0, 99, -2, Long.MIN_VALUE, Long.MAX_VALUE};
        for (long rest : any) {
            StandInMill none = ofMethod(0);
            CHECK.due("no parameter", Check.call(none, 0, 3, rest, rest, rest), 0);
            seen("no parameter", none, 24, 0, 0, -1, -1, -1, -1, -1, -1);
            StandInMill one = ofMethod(0, 7);
            CHECK.due("one", Check.call(one, 0, 3, -1, rest, rest), 0);
            seen("one", one, 24, 0, 1, -1, -1, -1, 0, -1, -1);
            StandInMill two = ofMethod(0, 7, 6);
            CHECK.due("two", Check.call(two, 0, 3, -1, 5, rest), 0);
            seen("two", two, 24, 0, 2, -1, 46, -1, 0, 5, -1);
            CHECK.due("the second of two", Check.call(two, 0, 3, 7, 5, rest), ILLEGAL);
        }
    }

    private static void noSuchClassOrMethodGoesFirst() {
        StandInMill x = ofMethod(0, 7);
        CHECK.due("both are wrong: no class", Check.call(x, 1, 3, 99, 99, 99), BAD);
        CHECK.due("both are wrong: no method", Check.call(x, 0, 4, 99, 99, 99), BAD);
        CHECK.due("the object alone is wrong", Check.call(x, 0, 3, 99, 99, 99), ILLEGAL);
    }

    private static void plain(int type, long given, long want) {
        StandInMill x = ofMethod(0, type, type, type);
        CHECK.due("PLAIN " + type + " " + given, Check.call(x, 0, 3, given, 0, given), 0);
        seen("PLAIN " + type + " " + given, x, 24, 0, 3, 40 + type, 40 + type, 40 + type, want, 0, want);
    }

    /** "(a truth: 1 for all but 0)" */
    private static void truths() {
        plain(1, 0, 0);
        long[] trues = {1, 2, -1, 256, 1L << 31, 1L << 32, 1L << 62, Long.MIN_VALUE, Long.MAX_VALUE};
        for (long given : trues) {
            plain(1, given, 1);
        }
    }

    /** "a PLAIN one takes its lowest bits", a byte's */
    private static void bytes() {
        plain(2, 127, 127);
        plain(2, 128, -128);
        plain(2, 255, -1);
        plain(2, 256, 0);
        plain(2, -129, 127);
        plain(2, Long.MIN_VALUE, 0);
        plain(2, Long.MAX_VALUE, -1);
    }

    private static void characters() {
        plain(3, 32768, 32768);
        plain(3, 65535, 65535);
        plain(3, 65536, 0);
        plain(3, -1, 65535);
        plain(3, Long.MIN_VALUE, 0);
        plain(3, Long.MAX_VALUE, 65535);
    }

    private static void shorts() {
        plain(4, 32767, 32767);
        plain(4, 32768, -32768);
        plain(4, 65535, -1);
        plain(4, 65536, 0);
        plain(4, -32769, 32767);
        plain(4, Long.MIN_VALUE, 0);
        plain(4, Long.MAX_VALUE, -1);
    }

    private static void ints() {
        plain(5, Integer.MAX_VALUE, Integer.MAX_VALUE);
        plain(5, Integer.MAX_VALUE + 1L, Integer.MIN_VALUE);
        plain(5, Integer.MIN_VALUE - 1L, Integer.MAX_VALUE);
        plain(5, 1L << 32, 0);
        plain(5, (1L << 32) - 1, -1);
        plain(5, Long.MIN_VALUE, 0);
        plain(5, Long.MAX_VALUE, -1);
    }

    private static void longs() {
        long[] values = {1, -1, 1L << 31, 1L << 32, Long.MIN_VALUE, Long.MAX_VALUE};
        for (long value : values) {
            plain(6, value, value);
        }
    }

    /** A PLAIN parameter is no object: none is looked for. */
    private static void plainOnesTakeAnyLong() {
        for (int type = 1; type <= 6; type++) {
            StandInMill x = ofMethod(0, type);
            for (long far : Check.farFrom(7L)) {
                CHECK.due("PLAIN " + type + " " + far, Check.call(x, 0, 3, far, 0, 0), 0);
            }
        }
    }

    /** "PLAIN ones in BOXES (which are seen, but come to no number)" */
    private static void boxesComeToNoNumber() {
        StandInMill x = ofMethod(0, 5, 6, 1);
        Check.call(x, 0, 3, 1, 2, 3);
        CHECK.due("no object is there", x.value(0, 0), -1);
        CHECK.due("none can be answered", x.handler(0, 0, false), false);
        CHECK.due("the first object", x.object(8, 9), 0);
        Check.call(x, 0, 3, 1, 2, 3);
        CHECK.due("the second object", x.object(8, 9), 1);
    }

    /** seen: "NONE .. at first". */
    private static void seenAtFirst() {
        StandInMill x = ofMethod(0, 7);
        seen("at first", x, -1, -1, -1, -1, -1, -1, -1, -1, -1);
        Check.call(x, 0, 3, 5, 0, 0);
        Check.call(x, 0, 9, 5, 0, 0);
        seen("behind calls that throw", x, -1, -1, -1, -1, -1, -1, -1, -1, -1);
    }

    /** seen: "what 0: the type of which its method is, 1: that method's number": the one of the CODE. */
    private static void seenMethod() {
        StandInMill x = new StandInMill();
        x.face(0, 0, 0, true);
        x.face(0, 1, 0, true);
        x.method(24, 1, 0);
        x.method(24, 0, 0);
        x.method(25, 0, 0);
        x.method(25, 28, 7);
        Check.stand(x, 0, 25, 24);
        int[] owners = {7, 7, 7, 25, 24};
        int[] numbers = {0, 1, 2, 0, 0};
        for (int k = 0; k < owners.length; k++) {
            Check.call(x, 0, k, -1, 0, 0);
            CHECK.due("owner of " + k, x.seen(0), owners[k]);
            CHECK.due("number of " + k, x.seen(1), numbers[k]);
        }
        Check.stand(x, 0, 24, 25);
        Check.call(x, 1, 4, 0, 0, 0);
        CHECK.due("owner in the other order", x.seen(0), 24);
        CHECK.due("number in the other order", x.seen(1), 1);
    }

    /** seen: "2: how many parameters; 3, 4, 5: their types (.. NONE for none), 6, 7, 8: their values". */
    private static void seenHowManyParameters() {
        StandInMill none = ofMethod(0);
        Check.call(none, 0, 3, 1, 2, 3);
        seen("none", none, 24, 0, 0, -1, -1, -1, -1, -1, -1);
        StandInMill one = ofMethod(0, 5);
        Check.call(one, 0, 3, 1, 2, 3);
        seen("one", one, 24, 0, 1, 45, -1, -1, 1, -1, -1);
        StandInMill two = ofMethod(0, 5, 6);
        Check.call(two, 0, 3, 1, 2, 3);
        seen("two", two, 24, 0, 2, 45, 46, -1, 1, 2, -1);
        StandInMill three = ofMethod(0, 5, 6, 4);
        Check.call(three, 0, 3, 1, 2, 3);
        seen("three", three, 24, 0, 3, 45, 46, 44, 1, 2, 3);
    }

    /** seen: "their types (of BOXES, of objects ..)": the object's own, not the parameter's. */
    private static void seenObjects() {
        StandInMill x = ofMethod(0, 7, 8, 41);
        x.object(13, Long.MIN_VALUE);
        x.object(46, Long.MAX_VALUE);
        x.object(41, 5);
        CHECK.due("called", Check.call(x, 0, 3, 1, 0, 2), 0);
        seen("objects", x, 24, 0, 3, 46, 13, 41, Long.MAX_VALUE, Long.MIN_VALUE, 1);
        CHECK.due("called", Check.call(x, 0, 3, 2, 0, 2), 0);
        seen("the same twice", x, 24, 0, 3, 41, 13, 41, 1, Long.MIN_VALUE, 1);
    }

    /** seen: "NONE for none", "(of NONE: 0)". */
    private static void seenNone() {
        StandInMill x = ofMethod(0, 7, 5, 24);
        CHECK.due("called", Check.call(x, 0, 3, -1, -1, -1), 0);
        seen("NONE", x, 24, 0, 3, -1, 45, -1, 0, -1, 0);
    }

    /** seen: "NONE if there is none such". */
    private static void seenOfAnotherWhat() {
        StandInMill x = ofMethod(0, 5, 5, 5);
        Check.call(x, 0, 3, 7, 8, 9);
        CHECK.due("the last", x.seen(8), 9);
        CHECK.due("9", x.seen(9), -1);
        for (int what = 0; what <= 8; what++) {
            for (int far : Check.farFrom(what)) {
                CHECK.due("what " + far, x.seen(far), -1);
            }
        }
    }

    /** "What the HANDLER got in the latest call" */
    private static void seenInTheLatestCall() {
        StandInMill x = ofMethod(0, 5, 6, 7);
        x.object(8, 77);
        Check.call(x, 0, 3, 1, 2, 0);
        seen("three", x, 24, 0, 3, 45, 46, 8, 1, 2, 77);
        Check.call(x, 0, 1, 0, 2, 0);
        seen("then one", x, 7, 1, 1, 8, -1, -1, 77, -1, -1);
        Check.call(x, 0, 0, 0, 2, 0);
        seen("then none", x, 7, 0, 0, -1, -1, -1, -1, -1, -1);
        x.handler(0, 0, true);
        x.object(9, 1);
        Check.stand(x, 0, 24, 24);
        seen("other calls leave it", x, 7, 0, 0, -1, -1, -1, -1, -1, -1);
    }

    private static void seenWhateverTheOutcome() {
        StandInMill x = ofMethod(5, 5);
        x.object(10, 0);
        x.object(12, 0);
        x.object(45, 0);
        int[] outcomes = {2, 3, 1, 4, 5};
        int[] objects = {-1, 0, 2, 0, 1};
        for (int i = 0; i < outcomes.length; i++) {
            x.handler(0, objects[i], i > 2);
            CHECK.due("outcome", Check.call(x, 0, 3, 60 + i, 0, 0), outcomes[i]);
            seen("outcome " + outcomes[i], x, 24, 0, 1, 45, -1, -1, 60 + i, -1, -1);
        }
    }

    /** "(A call() that throws leaves it, and what was seen.)" */
    private static void callThatThrowsLeavesWhatWasSeen() {
        StandInMill x = ofMethod(0, 5, 7, 7);
        x.object(8, 33);
        CHECK.due("called", Check.call(x, 0, 3, 11, 0, -1), 0);
        int[][] wrong = {{1, 3}, {-1, 3}, {0, 4}, {0, -1}};
        for (int[] pair : wrong) {
            CHECK.due("no such class or method", Check.call(x, pair[0], pair[1], 22, 0, 0), BAD);
            seen("stays", x, 24, 0, 3, 45, 8, -1, 11, 33, 0);
        }
        CHECK.due("a wrong second", Check.call(x, 0, 3, 22, 1, 0), ILLEGAL);
        seen("stays", x, 24, 0, 3, 45, 8, -1, 11, 33, 0);
        CHECK.due("a wrong third", Check.call(x, 0, 3, 22, 0, 1), ILLEGAL);
        seen("stays", x, 24, 0, 3, 45, 8, -1, 11, 33, 0);
        CHECK.due("a wrong first of another", Check.call(x, 0, 1, 1, 0, 0), ILLEGAL);
        seen("stays", x, 24, 0, 3, 45, 8, -1, 11, 33, 0);
    }
}
