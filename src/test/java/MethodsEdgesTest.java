/**
 * The edges of METHODS OF ITS OWN in the terms, and of promises 6 and 7: method, throwing. A test for each sentence.
 */
public final class MethodsEdgesTest {
    private static final Check CHECK = new Check();

    public static void main(String[] args) {
        methodWithoutSuchAnInterface();
        methodNames();
        methodResults();
        methodParameters();
        methodParametersUntilOneIsZero();
        methodTypesAtTheirEnds();
        methodWithMadeTypes();
        methodWhenItHasSix();
        methodOfTheSameSignature();
        methodOfAnotherSignature();
        methodBehindAStandInClass();
        methodBehindARefusedStand();
        refusedMethodsTakeNoNumber();
        throwingWithoutSuchAnInterface();
        throwingWithoutSuchAMethod();
        throwingWhatIsNoClass();
        throwingAlready();
        throwingThree();
        throwingBehindAStandInClass();
        throwingBehindARefusedStand();
        refusedThrowingLeavesNothing();
        CHECK.end();
    }

    private static StandInMill withFace() {
        StandInMill x = new StandInMill();
        x.face(0, 0, 0, true);
        return x;
    }

    private static int types(int result, int... parameters) {
        return result | Check.packed(parameters) << 8;
    }

    /** method: "NONE if there is no such interface". */
    private static void methodWithoutSuchAnInterface() {
        StandInMill x = withFace();
        int[] none = {-1, 0, 5, 7, 8, 23, 25, 35, 36, 41, 46};
        for (int face : none) {
            CHECK.due("face " + face, x.method(face, 0, 5), -1);
        }
        for (int far : Check.farFrom(24)) {
            CHECK.due("face " + far, x.method(far, 0, 5), -1);
        }
        CHECK.due("the only one", x.method(24, 0, 5), 0);
    }

    /** "a name (0 .. 28)"; method: "the name is not as told". */
    private static void methodNames() {
        StandInMill x = withFace();
        CHECK.due("-1", x.method(24, -1, 5), -1);
        CHECK.due("29", x.method(24, 29, 5), -1);
        CHECK.due("30", x.method(24, 30, 5), -1);
        for (int far : Check.farFrom(28)) {
            CHECK.due("name " + far, x.method(24, far, 5), -1);
        }
        int[] names = {0, 1, 25, 26, 27, 28};
        for (int m = 0; m < names.length; m++) {
            CHECK.due("name " + names[m], x.method(24, names[m], names[m] == 28 ? 7 : 5), m);
        }
    }

    /** "a result (a type)"; method: "a type is not there". A result 0 is no value. */
    private static void methodResults() {
        for (int type = 0; type <= 255; type++) {
            boolean there = type <= 10 || type == 24 || type >= 41 && type <= 46;
            CHECK.due("result " + type, withFace().method(24, 0, type), there ? 0 : -1);
            CHECK.due("result " + type + " with a parameter", withFace().method(24, 0, types(type, 5)), there ? 0 : -1);
        }
    }

    /** "at most 3 parameters (their types)"; method: "a type is not there", each of the three. */
    private static void methodParameters() {
        for (int type = 1; type <= 255; type++) {
            boolean there = type <= 10 || type == 24 || type >= 41 && type <= 46;
            CHECK.due("first " + type, withFace().method(24, 0, types(5, type)), there ? 0 : -1);
            CHECK.due("second " + type, withFace().method(24, 0, types(5, 6, type)), there ? 0 : -1);
            CHECK.due("third " + type, withFace().method(24, 0, types(5, 6, 7, type)), there ? 0 : -1);
            CHECK.due("first of three " + type, withFace().method(24, 0, types(5, type, 7, 6)), there ? 0 : -1);
        }
    }

    private static void parameters(String what, int packed, int first, int second, int third) {
        StandInMill x = withFace();
        CHECK.due(what + ": made", x.method(24, 0, packed), 0);
        Check.stand(x, 0, 24);
        CHECK.due(what + ": first", x.told(0, 3, 2), first);
        CHECK.due(what + ": second", x.told(0, 3, 3), second);
        CHECK.due(what + ": third", x.told(0, 3, 4), third);
    }

    /** method: "the next three the parameters, until one is 0"; "(or a parameter 0, that is none)". */
    private static void methodParametersUntilOneIsZero() {
        parameters("none", types(5), 0, 0, 0);
        parameters("one", types(5, 6), 6, 0, 0);
        parameters("two", types(5, 6, 7), 6, 7, 0);
        parameters("three", types(5, 6, 7, 46), 6, 7, 46);
        parameters("the first is 0", types(5, 0, 7, 46), 0, 0, 0);
        parameters("the first is 0, then no type", types(5, 0, 99, 255), 0, 0, 0);
        parameters("the second is 0", types(5, 6, 0, 46), 6, 0, 0);
        parameters("the second is 0, then no type", types(5, 6, 0, 255), 6, 0, 0);
        StandInMill x = withFace();
        CHECK.due("one", x.method(24, 0, types(5, 6)), 0);
        CHECK.due("what is above a 0 makes no other SIGNATURE", x.method(24, 0, types(5, 6, 0, 7)), -1);
        CHECK.due("none", x.method(24, 0, types(5, 0, 6)), 1);
        CHECK.due("the same", x.method(24, 0, 5), -1);
    }

    /** The smallest and largest ints as types: their bytes are looked at like those of any other. */
    private static void methodTypesAtTheirEnds() {
        CHECK.due("all bits", withFace().method(24, 0, -1), -1);
        CHECK.due("the largest", withFace().method(24, 0, Integer.MAX_VALUE), -1);
        CHECK.due("no value, no parameters", withFace().method(24, 0, 0), 0);
        parameters("the smallest: 0, and 0 below what is no type", Integer.MIN_VALUE, 0, 0, 0);
        CHECK.due("128 as the third", withFace().method(24, 0, Integer.MIN_VALUE | types(5, 6, 7)), -1);
        CHECK.due("255 as the third", withFace().method(24, 0, types(5, 6, 7, 255)), -1);
        CHECK.due("the largest that is made", withFace().method(24, 0, types(46, 46, 46, 46)), 0);
        CHECK.due("one more in each", withFace().method(24, 0, types(47, 47, 47, 47)), -1);
    }

    private static void methodWithMadeTypes() {
        StandInMill x = withFace();
        CHECK.due("a class not made", x.method(24, 0, types(11)), -1);
        CHECK.due("an interface not made", x.method(24, 0, types(5, 25)), -1);
        x.type(7);
        x.face(0, 1, 0, true);
        CHECK.due("a class made", x.method(24, 0, types(11, 11)), 0);
        CHECK.due("an interface made", x.method(24, 0, types(25, 25, 24)), 1);
        CHECK.due("the next class", x.method(24, 1, types(12)), -1);
        CHECK.due("the next interface", x.method(24, 1, types(26)), -1);
    }

    /** "at most 6 METHODS OF ITS OWN"; method: "it has six". */
    private static void methodWhenItHasSix() {
        StandInMill x = withFace();
        x.face(0, 1, 0, true);
        x.extend(25, 24);
        for (int m = 0; m < 6; m++) {
            CHECK.due("method " + m, x.method(24, m, 5), m);
        }
        CHECK.due("a seventh", x.method(24, 6, 5), -1);
        CHECK.due("a seventh of other parameters", x.method(24, 0, types(5, 5)), -1);
        CHECK.due("one that is there", x.method(24, 0, 5), -1);
        for (int m = 0; m < 6; m++) {
            CHECK.due("a child's own " + m, x.method(25, 10 + m, 5), m);
        }
        CHECK.due("a child's seventh", x.method(25, 16, 5), -1);
        Check.stand(x, 0, 25);
        CHECK.due("all of both", x.about(0, 2), 15);
        CHECK.due("the last", x.told(0, 14, 0), 5);
    }

    /** "The SIGNATURE is the name and the parameters"; method: "or one of this SIGNATURE". */
    private static void methodOfTheSameSignature() {
        StandInMill x = withFace();
        x.method(24, 3, types(5, 6, 7, 24));
        CHECK.due("the same", x.method(24, 3, types(5, 6, 7, 24)), -1);
        CHECK.due("another result", x.method(24, 3, types(6, 6, 7, 24)), -1);
        CHECK.due("no value", x.method(24, 3, types(0, 6, 7, 24)), -1);
        x.method(24, 4, types(5));
        CHECK.due("without parameters", x.method(24, 4, types(7)), -1);
        x.method(24, 5, types(5, 1));
        CHECK.due("the last of several", x.method(24, 5, types(46, 1)), -1);
    }

    private static void methodOfAnotherSignature() {
        StandInMill x = withFace();
        x.face(0, 1, 0, true);
        x.extend(25, 24);
        CHECK.due("one", x.method(24, 3, types(5, 6, 7, 24)), 0);
        CHECK.due("another name", x.method(24, 2, types(5, 6, 7, 24)), 1);
        CHECK.due("another first", x.method(24, 3, types(5, 5, 7, 24)), 2);
        CHECK.due("another second", x.method(24, 3, types(5, 6, 6, 24)), 3);
        CHECK.due("another third", x.method(24, 3, types(5, 6, 7, 25)), 4);
        CHECK.due("fewer", x.method(24, 3, types(5, 6, 7)), 5);
        CHECK.due("a child has one of its own", x.method(25, 3, types(5, 6, 7, 24)), 0);
        CHECK.due("a PLAIN type is not its BOX", x.method(25, 3, types(5, 46, 7, 24)), 1);
        CHECK.due("ROOT's are not its own", x.method(25, 26, types(5)), 2);
        CHECK.due("ROOT's are not its own", x.method(25, 27, types(1, 7)), 3);
        CHECK.due("ROOT's are not its own", x.method(25, 28, types(7)), 4);
    }

    /** method: "or a stand-in class has been made". */
    private static void methodBehindAStandInClass() {
        StandInMill x = withFace();
        x.face(0, 1, 0, true);
        x.loader(0);
        CHECK.due("before", x.method(25, 0, 5), 0);
        CHECK.due("made for another interface and loader", Check.stand(x, 1, 24), 0);
        CHECK.due("behind", x.method(25, 1, 5), -1);
        x.face(0, 2, 0, true);
        CHECK.due("a new one neither", x.method(26, 0, 5), -1);
        Check.stand(x, 0, 25);
        CHECK.due("nothing came", x.about(1, 2), 4);
    }

    /** What comes behind a refused stand is in the next class, before its parent's METHODS. */
    private static void methodBehindARefusedStand() {
        StandInMill x = withFace();
        x.face(0, 1, 0, true);
        x.face(0, 2, 0, true);
        x.extend(25, 24);
        x.method(24, 0, 5);
        x.method(24, 1, 5);
        x.method(26, 26, 6);
        CHECK.due("a fault", Check.stand(x, 0, 25, 26), Check.ILLEGAL);
        CHECK.due("no such loader", Check.stand(x, 1, 24), Check.OUT_OF_BOUNDS);
        CHECK.due("no class has been made", x.method(25, 2, 5), 0);
        CHECK.due("nor now", x.method(25, 0, 6), 1);
        Check.stand(x, 0, 25);
        int[][] want = {{2, 5, 25}, {0, 6, 25}, {1, 5, 24}};
        CHECK.due("three", x.about(0, 2), 3 + want.length);
        for (int m = 0; m < want.length; m++) {
            CHECK.due("name of " + m, x.told(0, 3 + m, 0), want[m][0]);
            CHECK.due("result of " + m, x.told(0, 3 + m, 1), want[m][1]);
            CHECK.due("owner of " + m, x.told(0, 3 + m, 5), want[m][2]);
        }
    }

    private static void refusedMethodsTakeNoNumber() {
        StandInMill x = withFace();
        x.method(24, 29, 5);
        x.method(24, 0, 47);
        CHECK.due("the first", x.method(24, 0, 5), 0);
        x.method(24, 0, 6);
        x.method(24, 1, types(5, 99));
        CHECK.due("the second", x.method(24, 1, types(5, 6)), 1);
        Check.stand(x, 0, 24);
        CHECK.due("two", x.about(0, 2), 5);
        CHECK.due("the first one's result", x.told(0, 3, 1), 5);
    }

    private static StandInMill withMethods(int count) {
        StandInMill x = withFace();
        for (int m = 0; m < count; m++) {
            x.method(24, m, 0);
        }
        return x;
    }

    /** throwing: "false if there is none such", the interface. */
    private static void throwingWithoutSuchAnInterface() {
        StandInMill x = withMethods(1);
        int[] none = {-1, 0, 7, 8, 23, 25, 36, 41};
        for (int face : none) {
            CHECK.due("face " + face, x.throwing(face, 0, 8), false);
        }
        for (int far : Check.farFrom(24)) {
            CHECK.due("face " + far, x.throwing(far, 0, 8), false);
        }
        CHECK.due("the only one", x.throwing(24, 0, 8), true);
    }

    /** throwing: "false if there is none such", the method. */
    private static void throwingWithoutSuchAMethod() {
        StandInMill x = withFace();
        CHECK.due("0 of none", x.throwing(24, 0, 8), false);
        for (int m = 0; m < 6; m++) {
            CHECK.due("one beyond " + m, x.throwing(24, m, 8), false);
            x.method(24, m, 0);
            CHECK.due("the highest " + m, x.throwing(24, m, 8), true);
        }
        CHECK.due("6 of six", x.throwing(24, 6, 8), false);
        for (int far : Check.farFrom(5)) {
            CHECK.due("method " + far, x.throwing(24, far, 9), false);
        }
    }

    /** throwing: "it is no class". */
    private static void throwingWhatIsNoClass() {
        StandInMill x = withMethods(1);
        x.type(8);
        for (int type = -2; type <= 66; type++) {
            if (type < 8 || type > 11) {
                CHECK.due("type " + type, x.throwing(24, 0, type), false);
            }
        }
        for (int far : Check.farFrom(8)) {
            CHECK.due("type " + far, x.throwing(24, 0, far), false);
        }
        CHECK.due("the lowest", x.throwing(24, 0, 8), true);
        CHECK.due("the highest", x.throwing(24, 0, 11), true);
        x.type(7);
        CHECK.due("a class that is not BELOW THROWN", x.throwing(24, 0, 12), true);
    }

    /** throwing: "it may throw it already". */
    private static void throwingAlready() {
        StandInMill x = withMethods(2);
        CHECK.due("first", x.throwing(24, 0, 9), true);
        CHECK.due("first again", x.throwing(24, 0, 9), false);
        CHECK.due("second", x.throwing(24, 0, 10), true);
        CHECK.due("first again", x.throwing(24, 0, 9), false);
        CHECK.due("second again", x.throwing(24, 0, 10), false);
        CHECK.due("one above them is another", x.throwing(24, 0, 8), true);
        CHECK.due("another method's", x.throwing(24, 1, 9), true);
    }

    /** "at most 3 classes that it may THROW"; throwing: "or three". */
    private static void throwingThree() {
        StandInMill x = withMethods(2);
        x.type(8);
        CHECK.due("one", x.throwing(24, 0, 8), true);
        CHECK.due("two", x.throwing(24, 0, 9), true);
        CHECK.due("three", x.throwing(24, 0, 10), true);
        CHECK.due("four", x.throwing(24, 0, 11), false);
        CHECK.due("another method has its own three", x.throwing(24, 1, 11), true);
        Check.stand(x, 0, 24);
        for (int i = 0; i < 4; i++) {
            CHECK.due("told " + i, x.told(0, 3, 16 + i), i < 3 ? 8 + i : 0);
        }
        CHECK.due("the other one's", x.told(0, 4, 16), 11);
    }

    /** throwing: "or a stand-in class has been made". */
    private static void throwingBehindAStandInClass() {
        StandInMill x = withMethods(2);
        x.face(0, 1, 0, true);
        CHECK.due("before", x.throwing(24, 0, 9), true);
        CHECK.due("made for another interface", Check.stand(x, 0, 25), 0);
        CHECK.due("behind", x.throwing(24, 0, 10), false);
        CHECK.due("behind, for another method", x.throwing(24, 1, 10), false);
        Check.stand(x, 0, 24);
        CHECK.due("nothing came", x.told(1, 3, 17), 0);
        CHECK.due("nothing came", x.told(1, 4, 16), 0);
    }

    private static void throwingBehindARefusedStand() {
        StandInMill x = withMethods(1);
        x.face(0, 1, 0, true);
        x.method(25, 0, 5);
        CHECK.due("a fault", Check.stand(x, 0, 24, 24), Check.ILLEGAL);
        CHECK.due("another fault", Check.stand(x, 0, 24, 25), Check.ILLEGAL);
        CHECK.due("no interface", Check.stand(x, 0, 26), Check.OUT_OF_BOUNDS);
        CHECK.due("no class has been made", x.throwing(24, 0, 9), true);
        Check.stand(x, 0, 24);
        CHECK.due("the class has it", x.told(0, 3, 16), 9);
    }

    private static void refusedThrowingLeavesNothing() {
        StandInMill x = withMethods(1);
        x.throwing(24, 0, 7);
        x.throwing(24, 0, 11);
        x.throwing(24, 0, 41);
        x.throwing(24, 0, 9);
        x.throwing(24, 0, 9);
        Check.stand(x, 0, 24);
        CHECK.due("one", x.told(0, 3, 16), 9);
        CHECK.due("alone", x.told(0, 3, 17), 0);
    }
}
