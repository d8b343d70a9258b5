/** The edges of TYPES and BELOW in the terms, and of promises 3 and 10: type, below. A test for each sentence. */
public final class TypesEdgesTest {
    private static final Check CHECK = new Check();

    public static void main(String[] args) {
        zeroIsNoValue();
        plainOnes();
        sevenIsRoot();
        classesAtFirst();
        classesAtLast();
        parentsOfTheFirstClasses();
        interfacesAtFirst();
        interfacesAtLast();
        boxes();
        nothingElseIsAType();
        belowItself();
        belowRoot();
        belowAParent();
        belowAnyClassAbove();
        belowOneOfItsParents();
        belowAParentsLaterParent();
        notMadeOnesAreBelowNone();
        farNumbersAreBelowNone();
        typeWithoutSuchAParent();
        typeWhenThereAreSixteen();
        refusedTypesTakeNoNumber();
        typeGoesOnBehindAStandInClass();
        CHECK.end();
    }

    private static StandInMill withFace() {
        StandInMill x = new StandInMill();
        x.face(0, 0, 0, true);
        return x;
    }

    /** Whether a type can be a method's result: 0 can, and each that is there. */
    private static boolean isResult(int type) {
        return withFace().method(24, 0, type) == 0;
    }

    private static boolean isParameter(int type) {
        StandInMill x = withFace();
        boolean made = x.method(24, 0, type << 8) == 0;
        Check.stand(x, 0, 24);
        return made && x.told(0, 3, 2) == type;
    }

    /** "0 is no value." */
    private static void zeroIsNoValue() {
        StandInMill x = withFace();
        CHECK.due("0 as a result", isResult(0), true);
        CHECK.due("0 below ROOT", x.below(0, 7), false);
        CHECK.due("0 below itself", x.below(0, 0), true);
        CHECK.due("ROOT below 0", x.below(7, 0), false);
        CHECK.due("a class of 0", x.type(0), -1);
        CHECK.due("an object of 0", x.object(0, 0), -1);
        x.method(24, 0, 0);
        CHECK.due("throwing 0", x.throwing(24, 0, 0), false);
        CHECK.due("extending 0", x.extend(24, 0), false);
    }

    /** "PLAIN ones: 1 a truth, 2 a byte, 3 a character, 4 a short, 5 an int, 6 a long." */
    private static void plainOnes() {
        StandInMill x = withFace();
        x.method(24, 0, 0);
        for (int plain = 1; plain <= 6; plain++) {
            CHECK.due("result " + plain, isResult(plain), true);
            CHECK.due("parameter " + plain, isParameter(plain), true);
            CHECK.due("below ROOT " + plain, x.below(plain, 7), false);
            CHECK.due("above ROOT " + plain, x.below(7, plain), false);
            CHECK.due("its BOX below it " + plain, x.below(40 + plain, plain), false);
            CHECK.due("below its BOX " + plain, x.below(plain, 40 + plain), false);
            CHECK.due("object " + plain, x.object(plain, 1), -1);
            CHECK.due("class " + plain, x.type(plain), -1);
            CHECK.due("throwing " + plain, x.throwing(24, 0, plain), false);
        }
        CHECK.due("6 is not of 5", x.below(5, 6), false);
        CHECK.due("5 is not of 6", x.below(6, 5), false);
    }

    /** "7 is ROOT." */
    private static void sevenIsRoot() {
        StandInMill x = withFace();
        x.method(24, 0, 0);
        CHECK.due("result", isResult(7), true);
        CHECK.due("parameter", isParameter(7), true);
        CHECK.due("no object is of it", x.object(7, 0), -1);
        CHECK.due("it is no class to throw", x.throwing(24, 0, 7), false);
        CHECK.due("it is no interface", x.extend(24, 7), false);
        CHECK.due("it gets no method", x.method(7, 0, 5), -1);
        CHECK.due("it is a parent", x.type(7), 11);
    }

    /** "CLASSES are 8 .. 23 ..; more are made." Three are there at first. */
    private static void classesAtFirst() {
        for (int type = 8; type <= 23; type++) {
            boolean there = type <= 10;
            StandInMill x = withFace();
            x.method(24, 0, 0);
            CHECK.due("result " + type, isResult(type), there);
            CHECK.due("parameter " + type, isParameter(type), there);
            CHECK.due("below ROOT " + type, x.below(type, 7), there);
            CHECK.due("throwing " + type, x.throwing(24, 0, type), there);
            CHECK.due("object " + type, x.object(type, 0), there ? 0 : -1);
            CHECK.due("class of " + type, x.type(type), there ? 11 : -1);
        }
    }

    private static void classesAtLast() {
        StandInMill x = withFace();
        for (int type = 11; type <= 23; type++) {
            CHECK.due("not there yet " + type, x.object(type, 0), -1);
            CHECK.due("made " + type, x.type(7), type);
            CHECK.due("there " + type, x.object(type, 0), type - 11);
        }
        CHECK.due("23 as a result and parameter", x.method(24, 0, 23 | 23 << 8), 0);
        CHECK.due("throwing 23", x.throwing(24, 0, 23), true);
        CHECK.due("throwing 24", x.throwing(24, 0, 24), false);
        CHECK.due("object of 24", x.object(24, 0), -1);
    }

    /** "8 is THROWN (its parent is ROOT), 9 LOOSE and 10 ERROR (theirs is THROWN)." */
    private static void parentsOfTheFirstClasses() {
        StandInMill x = new StandInMill();
        boolean[][] below = {
            {true, false, false, false}, {true, true, false, false},
            {true, true, true, false}, {true, true, false, true}};
        for (int a = 7; a <= 10; a++) {
            for (int b = -2; b <= 66; b++) {
                CHECK.due("below " + a + " " + b, x.below(a, b), b >= 7 && b <= 10 && below[a - 7][b - 7]);
            }
        }
    }

    /** "INTERFACES are 24 .. 35." None is there at first. */
    private static void interfacesAtFirst() {
        for (int type = 24; type <= 35; type++) {
            StandInMill x = new StandInMill();
            CHECK.due("below ROOT " + type, x.below(type, 7), false);
            CHECK.due("method of " + type, x.method(type, 0, 5), -1);
            CHECK.due("stand of " + type, Check.stand(x, 0, type), Check.OUT_OF_BOUNDS);
        }
    }

    private static void interfacesAtLast() {
        StandInMill x = new StandInMill();
        for (int type = 24; type <= 35; type++) {
            CHECK.due("made", x.face(0, type - 24, 0, true), type);
            CHECK.due("the next is not there " + type, x.below(type + 1, 7), false);
            CHECK.due("it is " + type, x.below(type, 7), true);
            CHECK.due("no object is of it " + type, x.object(type, 0), -1);
            CHECK.due("no class is of it " + type, x.type(type), -1);
        }
        CHECK.due("35 as a result and parameter", x.method(35, 0, 35 | 35 << 8), 0);
        CHECK.due("it is no class to throw", x.throwing(35, 0, 35), false);
        CHECK.due("36 as a result", x.method(35, 1, 36), -1);
        CHECK.due("36 as a parameter", x.method(35, 1, 36 << 8), -1);
        CHECK.due("36 has no method", x.method(36, 1, 5), -1);
        CHECK.due("36 extends nothing", x.extend(36, 35), false);
        CHECK.due("stand of 36", Check.stand(x, 0, 36), Check.OUT_OF_BOUNDS);
        CHECK.due("stand of 35", Check.stand(x, 0, 35), 0);
    }

    /** "BOXES are 41 .. 46, of the PLAIN types 1 .. 6." */
    private static void boxes() {
        for (int type = 36; type <= 50; type++) {
            boolean there = type >= 41 && type <= 46;
            StandInMill x = withFace();
            x.method(24, 0, 0);
            CHECK.due("result " + type, isResult(type), there);
            CHECK.due("parameter " + type, isParameter(type), there);
            CHECK.due("below ROOT " + type, x.below(type, 7), there);
            CHECK.due("below THROWN " + type, x.below(type, 8), false);
            CHECK.due("below its neighbour " + type, x.below(type, type - 1), false);
            CHECK.due("object " + type, x.object(type, 0), there ? 0 : -1);
            CHECK.due("a class of it " + type, x.type(type), -1);
            CHECK.due("throwing " + type, x.throwing(24, 0, type), false);
        }
    }

    /** Of a byte's numbers those are types that the terms name and that are made; 24 is made here. */
    private static void nothingElseIsAType() {
        for (int type = 0; type <= 255; type++) {
            boolean there = type <= 10 || type == 24 || type >= 41 && type <= 46;
            CHECK.due("result " + type, isResult(type), there);
            CHECK.due("parameter " + type, type > 0 && isParameter(type), there && type > 0);
        }
    }

    /** "A type is BELOW another one if it is this": also 0, PLAIN ones, and those that are not made. */
    private static void belowItself() {
        StandInMill x = new StandInMill();
        for (int type = -2; type <= 66; type++) {
            CHECK.due("below itself " + type, x.below(type, type), true);
        }
        for (int type : Check.farFrom(7)) {
            CHECK.due("below itself " + type, x.below(type, type), true);
        }
    }

    /** "or if this is ROOT (for all but 0 and PLAIN ones)". */
    private static void belowRoot() {
        StandInMill x = withFace();
        x.type(8);
        for (int type = -2; type <= 66; type++) {
            boolean there = type >= 7 && type <= 11 || type == 24 || type >= 41 && type <= 46;
            CHECK.due("below ROOT " + type, x.below(type, 7), there);
        }
    }

    /** "or if its parent .. is BELOW it": through as many parents as there can be. */
    private static void belowAParent() {
        StandInMill x = new StandInMill();
        x.type(8);
        for (int type = 12; type <= 23; type++) {
            x.type(type - 1);
        }
        for (int type = 12; type <= 23; type++) {
            CHECK.due("its parent " + type, x.below(type, type - 1), true);
            CHECK.due("not upwards " + type, x.below(type - 1, type), false);
            CHECK.due("the first " + type, x.below(type, 11), true);
            CHECK.due("THROWN " + type, x.below(type, 8), true);
            CHECK.due("not LOOSE " + type, x.below(type, 9), false);
            CHECK.due("not ERROR " + type, x.below(type, 10), false);
        }
    }

    private static void belowAnyClassAbove() {
        for (int a = 11; a <= 23; a++) {
            StandInMill x = new StandInMill();
            for (int type = 11; type <= 23; type++) {
                x.type(type == 11 ? 9 : type / 2 + 3);
            }
            for (int b = 7; b <= 23; b++) {
                boolean above = false;
                for (int at = a; at > 7; at = at == 11 ? 9 : at > 11 ? at / 2 + 3 : at == 8 ? 7 : 8) {
                    above |= at == b;
                }
                CHECK.due("below " + a + " " + b, x.below(a, b), above || b == 7);
            }
        }
    }

    private static StandInMill withFaces(int count) {
        StandInMill x = new StandInMill();
        for (int f = 0; f < count; f++) {
            x.face(0, f, 0, true);
        }
        return x;
    }

    /** "or one of its parents, is BELOW it". */
    private static void belowOneOfItsParents() {
        StandInMill x = withFaces(12);
        CHECK.due("no parent yet", x.below(26, 24), false);
        x.extend(26, 24);
        CHECK.due("the first", x.below(26, 24), true);
        CHECK.due("not the second yet", x.below(26, 25), false);
        x.extend(26, 25);
        CHECK.due("the first still", x.below(26, 24), true);
        CHECK.due("the second", x.below(26, 25), true);
        CHECK.due("the parents are apart", x.below(25, 24), false);
        CHECK.due("not upwards", x.below(25, 26), false);
        for (int type = 27; type <= 35; type++) {
            x.extend(type, type - 1);
        }
        CHECK.due("the farthest, by the first", x.below(35, 24), true);
        CHECK.due("the farthest, by the second", x.below(35, 25), true);
        CHECK.due("not upwards", x.below(24, 35), false);
        CHECK.due("no class", x.below(35, 8), false);
        CHECK.due("a refused parent is none", x.extend(25, 26), false);
        CHECK.due("so it is not below it", x.below(25, 26), false);
    }

    private static void belowAParentsLaterParent() {
        StandInMill x = withFaces(12);
        for (int type = 35; type >= 25; type--) {
            x.extend(type, type - 1);
        }
        for (int a = 24; a <= 35; a++) {
            for (int b = 24; b <= 35; b++) {
                CHECK.due("below " + a + " " + b, x.below(a, b), b <= a);
            }
        }
    }

    /** "(Types that are not made are BELOW none but themselves.)" */
    private static void notMadeOnesAreBelowNone() {
        int[] notMade = {11, 12, 22, 23, 24, 25, 34, 35, 36, 40, 47, 48};
        for (int a : notMade) {
            StandInMill x = new StandInMill();
            for (int b = 0; b <= 50; b++) {
                CHECK.due("below " + a + " " + b, x.below(a, b), a == b);
                CHECK.due("below " + b + " " + a, x.below(b, a), a == b);
            }
        }
        StandInMill x = new StandInMill();
        x.type(9);
        x.face(0, 0, 0, true);
        CHECK.due("made now", x.below(11, 8), true);
        CHECK.due("made now", x.below(24, 7), true);
        CHECK.due("the next class is not", x.below(12, 7), false);
        CHECK.due("the next interface is not", x.below(25, 7), false);
    }

    private static void farNumbersAreBelowNone() {
        StandInMill x = new StandInMill();
        for (int far : Check.farFrom(9)) {
            CHECK.due("below " + far + " 8", x.below(far, 8), false);
            CHECK.due("below " + far + " 7", x.below(far, 7), false);
            CHECK.due("below " + far + " 9", x.below(far, 9), false);
        }
        for (int far : Check.farFrom(8)) {
            CHECK.due("below 9 " + far, x.below(9, far), false);
        }
        for (int far : Check.farFrom(7)) {
            CHECK.due("below 9 " + far, x.below(9, far), false);
            CHECK.due("below 41 " + far, x.below(41, far), false);
        }
        CHECK.due("the smallest below the largest", x.below(Integer.MIN_VALUE, Integer.MAX_VALUE), false);
        CHECK.due("the largest below the smallest", x.below(Integer.MAX_VALUE, Integer.MIN_VALUE), false);
    }

    /** type: "NONE if there is no such parent". */
    private static void typeWithoutSuchAParent() {
        StandInMill x = withFace();
        for (int parent = -2; parent <= 66; parent++) {
            if (parent < 7 || parent > 10) {
                CHECK.due("parent " + parent, x.type(parent), -1);
            }
        }
        for (int far : Check.farFrom(8)) {
            CHECK.due("parent " + far, x.type(far), -1);
        }
        CHECK.due("the lowest parent", x.type(7), 11);
        CHECK.due("the highest parent", x.type(11), 12);
        CHECK.due("one beyond", x.type(13), -1);
        CHECK.due("its own number is no parent", x.below(13, 13) && !x.below(13, 7), true);
    }

    /** type: "or there are sixteen". */
    private static void typeWhenThereAreSixteen() {
        StandInMill x = new StandInMill();
        for (int type = 11; type <= 22; type++) {
            x.type(8);
        }
        CHECK.due("the sixteenth", x.type(10), 23);
        for (int parent = 7; parent <= 24; parent++) {
            CHECK.due("the seventeenth of " + parent, x.type(parent), -1);
        }
        CHECK.due("24 is not made by it", x.below(24, 7), false);
        CHECK.due("the sixteenth stays below its parent", x.below(23, 10), true);
        CHECK.due("and below no other", x.below(23, 9), false);
        CHECK.due("24 is an interface's", x.face(0, 0, 0, true), 24);
        CHECK.due("still none", x.type(7), -1);
    }

    private static void refusedTypesTakeNoNumber() {
        StandInMill x = new StandInMill();
        CHECK.due("refused", x.type(11), -1);
        CHECK.due("refused", x.type(-1), -1);
        CHECK.due("the first made", x.type(9), 11);
        CHECK.due("refused", x.type(12), -1);
        CHECK.due("the second made", x.type(10), 12);
        CHECK.due("of its parent", x.below(12, 10), true);
    }

    private static void typeGoesOnBehindAStandInClass() {
        StandInMill x = withFace();
        Check.stand(x, 0, 24);
        CHECK.due("made", x.type(9), 11);
        CHECK.due("below", x.below(11, 9), true);
    }
}
