/**
 * The edges of STAND-IN CLASSES and FAULTS in the terms, and of promises 12 to 14: stand, fault, about. A test for each
 * sentence.
 */
public final class StandEdgesTest {
    private static final Check CHECK = new Check();
    private static final int BAD = Check.OUT_OF_BOUNDS;
    private static final int ILLEGAL = Check.ILLEGAL;

    public static void main(String[] args) {
        standWithoutSuchALoader();
        standWithoutAnInterface();
        standOfSomethingElse();
        standOfSomethingElseInEachPlace();
        standOfIntsAtTheirEnds();
        standUntilOneIsZero();
        standOfOneToFour();
        numbersOfClasses();
        theSameInTheSameOrder();
        theSameForItsLoaderAlone();
        theSameInSpiteOfEachFault();
        oneThatIsNotVisible();
        oneThatIsThereTwice();
        twoOfDifferentPackages();
        resultsOfOneSignature();
        resultsThatArePlainOrNothing();
        resultsBelowAllOthers();
        resultsOfRootsMethods();
        moreThanFortyMethods();
        joinedMethodsCountOnce();
        sixteenClasses();
        eachFaultBeforeTheNext();
        faultOfTheLatestStand();
        faultStaysBehindOtherCalls();
        packageOfOneThatIsNotOpen();
        numberWithinThePackage();
        refusedStandsLeaveNothing();
        aboutWithoutSuchAClass();
        aboutOfAnotherWhat();
        CHECK.end();
    }

    private static StandInMill withFaces(int count) {
        StandInMill x = new StandInMill();
        for (int f = 0; f < count; f++) {
            x.face(0, f, 0, true);
        }
        return x;
    }

    private static void stand(String what, StandInMill x, int loader, int list, int want, int fault) {
        CHECK.due(what, Check.standPacked(x, loader, list), want);
        CHECK.due(what + ": fault", x.fault(), fault);
    }

    private static void fault(String what, StandInMill x, int fault, int... faces) {
        stand(what, x, 0, Check.packed(faces), ILLEGAL, fault);
    }

    private static void made(String what, StandInMill x, int want, int... faces) {
        stand(what, x, 0, Check.packed(faces), want, 0);
    }

    /** stand: "IndexOutOfBoundsException: there is no such loader". */
    private static void standWithoutSuchALoader() {
        StandInMill x = withFaces(1);
        for (int far : Check.farFrom(0)) {
            stand("loader " + far, x, far, 24, BAD, 0);
        }
        for (int loader = 1; loader <= 3; loader++) {
            stand("one beyond " + loader, x, loader, 24, BAD, 0);
            x.loader(0);
            stand("the highest " + loader, x, loader, 24, loader - 1, 0);
        }
        stand("4 of four", x, 4, 24, BAD, 0);
        stand("no loader goes before a fault", x, 4, Check.packed(24, 24), BAD, 0);
    }

    /** stand: "no interface in the list". */
    private static void standWithoutAnInterface() {
        StandInMill x = withFaces(2);
        stand("nothing", x, 0, 0, BAD, 0);
        stand("a 0 below one", x, 0, Check.packed(0, 24), BAD, 0);
        stand("a 0 below three", x, 0, Check.packed(0, 24, 25, 24), BAD, 0);
        stand("two 0 below one", x, 0, Check.packed(0, 0, 24), BAD, 0);
        stand("three 0 below one", x, 0, Check.packed(0, 0, 0, 24), BAD, 0);
        stand("a 0 below all bits", x, 0, -256, BAD, 0);
        CHECK.due("no class is made", x.about(0, 0), -1);
    }

    /** stand: "or something else". */
    private static void standOfSomethingElse() {
        StandInMill x = withFaces(2);
        for (int octet = 1; octet <= 127; octet++) {
            if (octet != 24 && octet != 25) {
                stand("list " + octet, x, 0, octet, BAD, 0);
            }
        }
        StandInMill y = withFaces(2);
        for (int octet = 128; octet <= 255; octet++) {
            stand("list " + octet, y, 0, octet, BAD, 0);
        }
        made("the lowest", y, 0, 24);
        made("the highest", y, 1, 25);
        StandInMill full = withFaces(12);
        made("35 of twelve", full, 0, 35);
        stand("36 of twelve", full, 0, 36, BAD, 0);
    }

    private static void standOfSomethingElseInEachPlace() {
        StandInMill x = withFaces(4);
        int[] others = {1, 7, 8, 23, 28, 36, 41, 128, 152, 255};
        for (int other : others) {
            stand("second " + other, x, 0, Check.packed(24, other), BAD, 0);
            stand("third " + other, x, 0, Check.packed(24, 25, other), BAD, 0);
            stand("fourth " + other, x, 0, Check.packed(24, 25, 26, other), BAD, 0);
            stand("first of four " + other, x, 0, Check.packed(other, 25, 26, 24), BAD, 0);
            stand("it goes before a fault " + other, x, 0, Check.packed(24, 24, other), BAD, 0);
        }
        CHECK.due("no class is made", x.about(0, 0), -1);
    }

    private static void standOfIntsAtTheirEnds() {
        StandInMill x = withFaces(1);
        int[] ends = {Integer.MIN_VALUE, Integer.MIN_VALUE + 1, -1, -2, Integer.MAX_VALUE, Integer.MAX_VALUE - 1};
        for (int list : ends) {
            stand("list " + list, x, 0, list, BAD, 0);
        }
        stand("a list below 0", x, 0, Check.packed(24, 24, 24, 200), BAD, 0);
        stand("24 alone, below a 0 and the smallest int's bit", x, 0, Integer.MIN_VALUE | 24, 0, 0);
    }

    /** stand: "until one is 0 (what is above that does not count)". */
    private static void standUntilOneIsZero() {
        StandInMill x = withFaces(3);
        stand("one below a 0", x, 0, Check.packed(24, 0, 25, 26), 0, 0);
        stand("what is above may be anything", x, 0, Check.packed(24, 0, 255, 255), 0, 0);
        stand("or once more the same", x, 0, Check.packed(24, 0, 24, 24), 0, 0);
        stand("the same without", x, 0, 24, 0, 0);
        stand("two below a 0", x, 0, Check.packed(24, 25, 0, 255), 1, 0);
        stand("the same without", x, 0, Check.packed(24, 25), 1, 0);
        CHECK.due("one interface in the unit", x.octet(0, x.about(0, 3) - 69 - 3), 1);
        CHECK.due("two in the other", x.octet(1, x.about(1, 3) - 69 - 4), 2);
    }

    /** "a list of 1 to 4 interfaces" */
    private static void standOfOneToFour() {
        StandInMill x = withFaces(4);
        for (int f = 0; f < 4; f++) {
            x.method(24 + f, f, 5);
        }
        made("one", x, 0, 24);
        made("two", x, 1, 24, 25);
        made("three", x, 2, 24, 25, 26);
        made("four", x, 3, 24, 25, 26, 27);
        for (int s = 0; s < 4; s++) {
            CHECK.due("methods of " + s, x.about(s, 2), 4 + s);
            CHECK.due("the last one's", x.told(s, 3 + s, 5), 24 + s);
        }
    }

    /** stand: "its number, 0 at first". */
    private static void numbersOfClasses() {
        StandInMill x = withFaces(12);
        fault("a fault takes no number", x, 2, 24, 24);
        stand("nor what is no list", x, 0, 36, BAD, 0);
        for (int s = 0; s < 12; s++) {
            made("class " + s, x, s, 24 + s);
            made("again " + s, x, s, 24 + s);
            fault("a fault between", x, 2, 24, 24);
        }
    }

    /** "for the same ones in the same order it is the same" */
    private static void theSameInTheSameOrder() {
        StandInMill x = withFaces(4);
        made("one order", x, 0, 24, 25, 26, 27);
        made("the same", x, 0, 24, 25, 26, 27);
        made("the last two turned", x, 1, 24, 25, 27, 26);
        made("the first two turned", x, 2, 25, 24, 26, 27);
        made("fewer", x, 3, 24, 25, 26);
        made("fewer still", x, 4, 24, 25);
        made("the first again", x, 0, 24, 25, 26, 27);
        made("the third again", x, 2, 25, 24, 26, 27);
        CHECK.due("five", x.about(5, 0), -1);
    }

    private static void theSameForItsLoaderAlone() {
        StandInMill x = withFaces(1);
        x.loader(0);
        x.loader(1);
        for (int loader = 0; loader <= 2; loader++) {
            stand("for loader " + loader, x, loader, 24, loader, 0);
        }
        for (int loader = 2; loader >= 0; loader--) {
            stand("again for loader " + loader, x, loader, 24, loader, 0);
            CHECK.due("its loader", x.about(loader, 4), loader);
        }
    }

    /** "(also if there would be a fault by now)": of not being VISIBLE, and of there being 16. */
    private static void theSameInSpiteOfEachFault() {
        StandInMill x = new StandInMill();
        x.loader(0);
        x.face(1, 0, 0, true);
        stand("made", x, 1, 24, 0, 0);
        CHECK.due("hides it", x.face(0, 0, 0, true), 25);
        stand("the same", x, 1, 24, 0, 0);
        stand("in another list it is a fault", x, 1, Check.packed(24, 25), ILLEGAL, 1);
        stand("the same", x, 1, 24, 0, 0);
        StandInMill y = full();
        stand("there are 16", y, 0, Check.packed(30, 31), ILLEGAL, 6);
        for (int s = 0; s < 10; s++) {
            stand("but this is there", y, 0, 25 + s, s, 0);
        }
    }

    /** Fault 1: "one of the list is not VISIBLE for the loader". */
    private static void oneThatIsNotVisible() {
        StandInMill x = withFaces(3);
        x.loader(0);
        x.loader(0);
        x.face(1, 9, 0, true);
        fault("a child's", x, 1, 27);
        fault("first of four", x, 1, 27, 24, 25, 26);
        fault("last of four", x, 1, 24, 25, 26, 27);
        stand("a neighbour's", x, 2, 27, ILLEGAL, 1);
        stand("its own", x, 1, 27, 0, 0);
        stand("with its parent's", x, 1, Check.packed(24, 27), 1, 0);
    }

    /** Fault 2: "one is there twice". */
    private static void oneThatIsThereTwice() {
        StandInMill x = withFaces(4);
        fault("two", x, 2, 24, 24);
        fault("1 and 3", x, 2, 24, 25, 24);
        fault("2 and 3", x, 2, 25, 24, 24);
        fault("1 and 4", x, 2, 24, 25, 26, 24);
        fault("2 and 4", x, 2, 25, 24, 26, 24);
        fault("3 and 4", x, 2, 25, 26, 24, 24);
        fault("all", x, 2, 24, 24, 24, 24);
        made("none", x, 0, 25, 26, 24, 27);
    }

    /** Fault 3: "two that are not OPEN are of different packages". */
    private static void twoOfDifferentPackages() {
        StandInMill x = new StandInMill();
        x.face(0, 0, 0, false);
        x.face(0, 1, 0, false);
        x.face(0, 2, 3, false);
        x.face(0, 3, 1, true);
        x.face(0, 4, 2, true);
        fault("0 and 3", x, 3, 24, 26);
        fault("3 and 0", x, 3, 26, 24);
        fault("the last differs", x, 3, 24, 25, 27, 26);
        fault("OPEN ones between", x, 3, 26, 27, 28, 24);
        made("of one package", x, 0, 24, 25);
        made("OPEN ones of different packages", x, 1, 27, 28);
        made("one that is not OPEN with OPEN ones of others", x, 2, 27, 26, 28);
    }

    /** Classes 11 of THROWN, 12 and 13 of 11, 14 of 12; an interface for each result, all methods of one SIGNATURE. */
    private static StandInMill ofResults(int... results) {
        StandInMill x = new StandInMill();
        x.type(8);
        x.type(11);
        x.type(11);
        x.type(12);
        for (int i = 0; i < results.length; i++) {
            x.face(0, i, 0, true);
            x.method(24 + i, 0, results[i] | 5 << 8);
        }
        return x;
    }

    private static void agree(String what, boolean want, int... results) {
        int list = 0;
        for (int i = 0; i < results.length; i++) {
            list |= 24 + i << 8 * i;
        }
        stand(what, ofResults(results), 0, list, want ? 0 : ILLEGAL, want ? 0 : 4);
    }

    /** Fault 4: "of its methods of one SIGNATURE with different results": others may differ as they like. */
    private static void resultsOfOneSignature() {
        StandInMill x = withFaces(2);
        x.method(24, 0, 5 | 5 << 8);
        x.method(25, 0, 6 | 6 << 8);
        x.method(25, 1, 0 | 5 << 8);
        x.method(25, 0, 0);
        made("other names and parameters", x, 0, 24, 25);
        agree("the same result, PLAIN", true, 5, 5, 5, 5);
        agree("the same result, none", true, 0, 0, 0, 0);
        agree("the same result, a class", true, 14, 14, 14, 14);
        StandInMill y = withFaces(1);
        y.face(0, 9, 0, true);
        y.method(24, 0, 5);
        y.method(25, 1, 5);
        y.method(25, 0, 6);
        fault("the last of several methods", y, 4, 24, 25);
    }

    /** Fault 4: "one has a result that is PLAIN or 0". */
    private static void resultsThatArePlainOrNothing() {
        for (int plain = 0; plain <= 6; plain++) {
            agree("ROOT, then " + plain, false, 7, plain);
            agree(plain + ", then ROOT", false, plain, 7);
            agree("a BOX, then " + plain, false, 40 + Math.max(1, plain), plain);
            agree("the last of four, " + plain, false, 7, 8, 11, plain);
            agree("the first of four, " + plain, false, plain, 7, 8, 11);
            agree("another one, then " + plain, false, (plain + 1) % 7, plain);
        }
        agree("0 with 1", false, 0, 1);
        agree("6 with 5", false, 6, 5);
        agree("none is PLAIN: 7", true, 7, 8);
    }

    /** Fault 4: "or none has a result that is BELOW all others'". */
    private static void resultsBelowAllOthers() {
        agree("the first", true, 14, 12, 11, 7);
        agree("the second", true, 12, 14, 11, 8);
        agree("the third", true, 7, 12, 14, 11);
        agree("the last", true, 7, 8, 11, 14);
        agree("all but one", false, 14, 12, 13, 7);
        agree("one beside the last", false, 7, 11, 12, 13);
        agree("one above all is not enough", false, 12, 13, 11);
        agree("two apart", false, 9, 10);
        agree("a BOX below ROOT", true, 7, 46);
        agree("two BOXES", false, 45, 46);
        agree("a class and an interface", false, 8, 24);
        agree("an interface below ROOT", true, 24, 7);
        agree("two interfaces", false, 24, 25);
        StandInMill x = ofResults(24, 25, 26);
        x.extend(26, 24);
        fault("below one of two", x, 4, 24, 25, 26);
        x.extend(26, 25);
        made("below both", x, 0, 24, 25, 26);
        fault("without the lowest", x, 4, 24, 25);
    }

    private static void resultsOfRootsMethods() {
        int[][] wrong = {{26, 6}, {26, 0}, {26, 45}, {26, 7}, {27, 0 | 7 << 8}, {27, 41 | 7 << 8}, {28, 0}, {28, 5}};
        for (int[] method : wrong) {
            StandInMill x = withFaces(1);
            x.method(24, method[0], method[1]);
            fault("method " + method[0] + " of " + method[1], x, 4, 24);
        }
        int[][] right = {{26, 5}, {27, 1 | 7 << 8}, {28, 7}, {28, 8}, {28, 46}, {28, 24}, {26, 6 | 7 << 8}, {27, 0},
            {28, 0 | 5 << 8}};
        for (int[] method : right) {
            StandInMill x = withFaces(1);
            x.method(24, method[0], method[1]);
            made("method " + method[0] + " of " + method[1], x, 0, 24);
        }
        StandInMill x = withFaces(2);
        x.method(24, 28, 8);
        x.method(25, 28, 45);
        made("one below ROOT", x, 0, 24);
        fault("two below ROOT that are apart", x, 4, 24, 25);
    }

    /**
     * For loader 0: 24 is not VISIBLE; 25 and 26 are not OPEN and of different packages; 27 and 28 disagree; 29 to 35
     * are a chain, with 34 of 36 methods and 35 of 38. With ROOT's that makes 41, and 40 for 34 and 27.
     */
    private static StandInMill withEachFault() {
        StandInMill x = new StandInMill();
        x.loader(0);
        x.face(1, 0, 0, true);
        x.face(0, 1, 0, false);
        x.face(0, 2, 1, false);
        x.face(0, 3, 0, true);
        x.face(0, 4, 0, true);
        x.method(27, 0, 5);
        x.method(28, 0, 6);
        for (int f = 29; f <= 35; f++) {
            x.face(0, f - 24, 0, true);
            x.extend(f, f - 1 < 29 ? 0 : f - 1);
            for (int m = 0; m < (f < 35 ? 6 : 2); m++) {
                x.method(f, m, 5 | (f - 28) << 8);
            }
        }
        return x;
    }

    /** The same with 16 classes: of 25 to 34 for loader 0, of 25 to 30 for loader 1. */
    private static StandInMill full() {
        StandInMill x = withEachFault();
        for (int s = 0; s < 16; s++) {
            Check.stand(x, s / 10, 25 + s % 10);
        }
        return x;
    }

    /** Fault 5: "more than 40 methods". */
    private static void moreThanFortyMethods() {
        StandInMill x = withEachFault();
        fault("41", x, 5, 35);
        fault("42", x, 5, 35, 27);
        made("39", x, 0, 34);
        made("40", x, 1, 34, 27);
        made("40, turned", x, 2, 28, 34);
        CHECK.due("39", x.about(0, 2), 39);
        CHECK.due("40", x.about(1, 2), 40);
        CHECK.due("the last of 40", x.told(1, 39, 5), 27);
        CHECK.due("no more", x.told(1, 40, 5), -1);
        CHECK.due("the last of 40, turned", x.told(2, 39, 5), 29);
        StandInMill most = withFaces(12);
        for (int f = 0; f < 12; f++) {
            for (int m = 0; m < 6; m++) {
                most.method(24 + f, 2 * f + m / 3, 5 | 1 + m % 3 << 8);
            }
            most.extend(24 + f, 23 + f);
        }
        fault("75", most, 5, 35);
        made("39", most, 0, 29);
    }

    private static void joinedMethodsCountOnce() {
        StandInMill x = withEachFault();
        made("34 with what it is made of", x, 0, 34, 33, 32, 31);
        CHECK.due("39", x.about(0, 2), 39);
        StandInMill y = withFaces(2);
        y.method(24, 26, 5);
        y.method(24, 27, 1 | 7 << 8);
        y.method(24, 28, 7);
        y.method(25, 28, 8);
        made("ROOT's", y, 0, 24);
        CHECK.due("three", y.about(0, 2), 3);
        made("of one SIGNATURE with two results", y, 1, 24, 25);
        CHECK.due("four", y.about(1, 2), 4);
    }

    /** Fault 6: "there are 16 classes". */
    private static void sixteenClasses() {
        StandInMill x = withEachFault();
        for (int s = 0; s < 16; s++) {
            stand("class " + s, x, s / 10, 25 + s % 10, s, 0);
        }
        fault("a 17th", x, 6, 27, 29);
        stand("a 17th for another loader", x, 1, 24, ILLEGAL, 6);
        CHECK.due("the 16th", x.about(15, 4), 1);
        CHECK.due("no 17th", x.about(16, 0), -1);
        stand("the 16th is there", x, 1, 30, 15, 0);
        stand("no list is none still", x, 1, 0, BAD, 0);
    }

    /** "FAULTS, in this order" */
    private static void eachFaultBeforeTheNext() {
        StandInMill x = withEachFault();
        fault("1 before 2", x, 1, 25, 25, 24);
        fault("1 before 2, of the same", x, 1, 24, 24);
        fault("1 before 3", x, 1, 25, 26, 24);
        fault("1 before 4", x, 1, 27, 28, 24);
        fault("1 before 5", x, 1, 35, 24);
        fault("2 before 3", x, 2, 25, 26, 26);
        fault("2 before 4", x, 2, 27, 28, 28);
        fault("2 before 5", x, 2, 35, 35);
        fault("3 before 4", x, 3, 27, 28, 26, 25);
        fault("3 before 5", x, 3, 35, 26, 25);
        fault("4 before 5", x, 4, 35, 28, 27);
        StandInMill y = full();
        fault("1 before 6", y, 1, 24);
        fault("2 before 6", y, 2, 25, 25);
        fault("3 before 6", y, 3, 25, 26);
        fault("4 before 6", y, 4, 27, 28);
        fault("5 before 6", y, 5, 35);
        fault("6", y, 6, 27, 29);
    }

    /** fault: "The fault of the latest stand(); 0 without one, at first, and behind an IndexOutOfBoundsException." */
    private static void faultOfTheLatestStand() {
        StandInMill x = withEachFault();
        CHECK.due("at first", x.fault(), 0);
        fault("a fault", x, 4, 27, 28);
        fault("another one", x, 1, 24);
        stand("behind no such loader", x, 2, 25, BAD, 0);
        fault("a fault", x, 5, 35);
        stand("behind no list", x, 0, 0, BAD, 0);
        fault("a fault", x, 3, 25, 26);
        stand("behind something else", x, 0, 36, BAD, 0);
        fault("a fault", x, 2, 25, 25);
        made("without one", x, 0, 25);
        fault("a fault", x, 2, 25, 25);
        made("without one, for the same", x, 0, 25);
    }

    private static void faultStaysBehindOtherCalls() {
        StandInMill x = withEachFault();
        made("a class", x, 0, 25);
        fault("a fault", x, 3, 25, 26);
        x.face(0, 25, 3, true);
        x.type(7);
        x.object(8, 0);
        x.method(24, 0, 5);
        x.handler(0, 0, true);
        Check.call(x, 0, 0, 0, 0, 0);
        Check.call(x, 9, 0, 0, 0, 0);
        CHECK.due("stays", x.fault(), 3);
    }

    /** "Its package is that of one that is not OPEN, 4 if there is none". */
    private static void packageOfOneThatIsNotOpen() {
        StandInMill x = new StandInMill();
        for (int pack = 0; pack <= 3; pack++) {
            x.face(0, 0, pack, false);
            x.face(0, 1, pack, true);
        }
        for (int pack = 0; pack <= 3; pack++) {
            made("not OPEN of " + pack, x, 2 * pack, 24 + 2 * pack);
            CHECK.due("its package", x.about(2 * pack, 0), pack);
            made("OPEN of " + pack, x, 2 * pack + 1, 25 + 2 * pack);
            CHECK.due("4", x.about(2 * pack + 1, 0), 4);
        }
        made("the last alone is not OPEN", x, 8, 25, 27, 29, 30);
        CHECK.due("its package", x.about(8, 0), 3);
        made("the first alone is not OPEN", x, 9, 26, 25, 29, 31);
        CHECK.due("its package", x.about(9, 0), 1);
        made("all are OPEN", x, 10, 25, 27, 29, 31);
        CHECK.due("4", x.about(10, 0), 4);
    }

    /** "its number counts the classes of that package made before" */
    private static void numberWithinThePackage() {
        StandInMill x = new StandInMill();
        x.loader(0);
        x.face(0, 0, 0, false);
        x.face(0, 1, 3, false);
        x.face(0, 2, 0, true);
        int[] loaders = {0, 0, 0, 1, 1, 0, 1, 0};
        int[] lists = {24, 25, 26, 24, 25, 26 << 8 | 24, 26, 26 << 8 | 25};
        int[] packs = {0, 3, 4, 0, 3, 0, 4, 3};
        int[] numbers = {0, 0, 0, 1, 1, 2, 1, 2};
        for (int s = 0; s < lists.length; s++) {
            stand("class " + s, x, loaders[s], lists[s], s, 0);
            CHECK.due("package of " + s, x.about(s, 0), packs[s]);
            CHECK.due("number of " + s, x.about(s, 1), numbers[s]);
            stand("again " + s, x, loaders[s], lists[s], s, 0);
            fault("a fault counts nothing", x, 2, 24, 24);
        }
        StandInMill y = full();
        CHECK.due("the last of OPEN ones", y.about(15, 0), 4);
        CHECK.due("there are 12 of them", y.about(15, 1), 11);
    }

    private static void refusedStandsLeaveNothing() {
        StandInMill x = withEachFault();
        x.throwing(27, 0, 8);
        fault("many methods", x, 5, 35, 27);
        fault("two results", x, 4, 27, 28);
        made("few", x, 0, 25);
        CHECK.due("ROOT's alone", x.about(0, 2), 3);
        CHECK.due("nothing thrown", x.told(0, 2, 16), 0);
        made("one more", x, 1, 28);
        CHECK.due("its own result", x.told(1, 3, 1), 6);
        CHECK.due("nothing thrown", x.told(1, 3, 16), 0);
        fault("two results", x, 4, 27, 28);
        CHECK.due("what was made stays", x.told(1, 3, 1), 6);
        made("the other", x, 2, 27);
        CHECK.due("what was made stays", x.told(1, 3, 5), 28);
        CHECK.due("it throws", x.told(2, 3, 16), 8);
    }

    /** about: "NONE if there is none such". */
    private static void aboutWithoutSuchAClass() {
        StandInMill x = withEachFault();
        for (int s = 0; s < 3; s++) {
            CHECK.due("one beyond " + s, x.about(s, 0), -1);
            Check.stand(x, 0, 25 + s);
            CHECK.due("the highest " + s, x.about(s, 2) > 0, true);
        }
        for (int far : Check.farFrom(0)) {
            for (int what = 0; what <= 4; what++) {
                CHECK.due("class " + far, x.about(far, what), -1);
            }
        }
        StandInMill y = full();
        CHECK.due("15 of 16", y.about(15, 2), 15);
        CHECK.due("16 of 16", y.about(16, 2), -1);
    }

    /** about: "what 0: its package .. 4: its loader. NONE .. for another what." */
    private static void aboutOfAnotherWhat() {
        StandInMill x = new StandInMill();
        x.loader(0);
        x.face(0, 0, 2, false);
        x.face(0, 1, 2, true);
        stand("first", x, 0, 24, 0, 0);
        stand("second", x, 1, Check.packed(25, 24), 1, 0);
        int[] want = {2, 1, 3, 3 + 31 + 2 + 6 + 69, 1};
        for (int what = 0; what <= 4; what++) {
            CHECK.due("what " + what, x.about(1, what), want[what]);
        }
        CHECK.due("what 5", x.about(1, 5), -1);
        for (int far : Check.farFrom(0)) {
            CHECK.due("what " + far, x.about(1, far), -1);
        }
        for (int far : Check.farFrom(4)) {
            CHECK.due("what " + far, x.about(1, far), -1);
        }
    }
}
