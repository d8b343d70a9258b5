/** The edges of interfaces and their METHODS in the terms, and of promise 5: extend. A test for each sentence. */
public final class InterfacesEdgesTest {
    private static final Check CHECK = new Check();

    public static void main(String[] args) {
        extendWithoutSuchAnInterface();
        extendWithoutSuchAParent();
        extendWhatIsNotEarlier();
        extendAParentAlready();
        extendAnAncestor();
        extendWhatIsNotVisible();
        extendWhatIsHidden();
        extendWithTwoParents();
        extendBehindAStandInClass();
        extendBehindARefusedStand();
        refusedExtendsLeaveNothing();
        methodsAreItsOwnInOrder();
        methodsOfEachParentInOrder();
        methodsHideAParentsOfTheSameSignature();
        methodsHideAGrandparents();
        methodsHideNoOtherSignature();
        parentsHideNothingOfOneAnother();
        hiddenByOneParentAlone();
        methodsOfTheWholeChain();
        methodsThatComeByManyWays();
        rootsThree();
        CHECK.end();
    }

    private static StandInMill withFaces(int count) {
        StandInMill x = new StandInMill();
        for (int f = 0; f < count; f++) {
            x.face(0, f, 0, true);
        }
        return x;
    }

    /** extend: "false if there is none such", the interface. */
    private static void extendWithoutSuchAnInterface() {
        StandInMill x = withFaces(3);
        int[] none = {-1, 0, 7, 8, 23, 27, 35, 36, 41, 46};
        for (int face : none) {
            CHECK.due("face " + face, x.extend(face, 24), false);
        }
        for (int far : Check.farFrom(26)) {
            CHECK.due("face " + far, x.extend(far, 24), false);
        }
        CHECK.due("the highest", x.extend(26, 24), true);
        StandInMill full = withFaces(12);
        CHECK.due("36 of twelve", full.extend(36, 24), false);
        CHECK.due("35 of twelve", full.extend(35, 24), true);
    }

    /** extend: "false if there is none such", the other one. */
    private static void extendWithoutSuchAParent() {
        StandInMill x = withFaces(3);
        int[] none = {-1, 0, 6, 7, 8, 10, 11, 23, 27, 36, 41, 46};
        for (int parent : none) {
            CHECK.due("parent " + parent, x.extend(26, parent), false);
        }
        for (int far : Check.farFrom(24)) {
            CHECK.due("parent " + far, x.extend(26, far), false);
        }
        CHECK.due("neither", x.extend(Integer.MIN_VALUE, Integer.MIN_VALUE), false);
        CHECK.due("neither", x.extend(Integer.MAX_VALUE, Integer.MIN_VALUE), false);
        CHECK.due("the lowest", x.extend(26, 24), true);
    }

    /** extend: "the other one is not earlier". */
    private static void extendWhatIsNotEarlier() {
        StandInMill x = withFaces(12);
        for (int face = 24; face <= 35; face++) {
            CHECK.due("itself " + face, x.extend(face, face), false);
            CHECK.due("the next " + face, x.extend(face, face + 1), false);
            CHECK.due("the last " + face, x.extend(face, 35), false);
            CHECK.due("the one before " + face, x.extend(face, face - 1), face > 24);
        }
        CHECK.due("the first of all for the last", x.extend(35, 24), true);
    }

    /** extend: "or is a parent already". */
    private static void extendAParentAlready() {
        StandInMill x = withFaces(4);
        CHECK.due("the first", x.extend(27, 25), true);
        CHECK.due("the first again", x.extend(27, 25), false);
        CHECK.due("so there is room for a second", x.extend(27, 24), true);
        CHECK.due("the first again", x.extend(27, 25), false);
        CHECK.due("the second again", x.extend(27, 24), false);
        CHECK.due("another one has it too", x.extend(26, 25), true);
    }

    private static void extendAnAncestor() {
        StandInMill x = withFaces(3);
        x.extend(25, 24);
        x.extend(26, 25);
        CHECK.due("a parent's parent is no parent yet", x.extend(26, 24), true);
    }

    /** extend: "is not VISIBLE for its loader". */
    private static void extendWhatIsNotVisible() {
        StandInMill x = new StandInMill();
        x.loader(0);
        x.loader(1);
        x.loader(0);
        int[] makers = {0, 1, 2, 3};
        for (int loader : makers) {
            x.face(loader, loader, 0, true);
        }
        for (int loader : makers) {
            x.face(loader, 10 + loader, 0, true);
        }
        boolean[][] visible = {
            {true, false, false, false}, {true, true, false, false},
            {true, true, true, false}, {true, false, false, true}};
        for (int loader : makers) {
            int taken = 0;
            for (int maker = 3; maker >= 0; maker--) {
                boolean want = visible[loader][maker] && taken < 2;
                taken += want ? 1 : 0;
                CHECK.due(loader + " of " + maker, x.extend(28 + loader, 24 + maker), want);
            }
        }
        x.face(2, 20, 0, true);
        CHECK.due("a parent's parent's", x.extend(32, 24), true);
    }

    private static void extendWhatIsHidden() {
        StandInMill x = new StandInMill();
        x.loader(0);
        x.face(1, 0, 0, true);
        x.face(1, 1, 0, true);
        x.face(1, 2, 0, true);
        CHECK.due("found yet", x.extend(25, 24), true);
        x.face(0, 0, 0, true);
        CHECK.due("hidden by now", x.extend(26, 24), false);
        CHECK.due("that has it keeps it", x.below(25, 24), true);
    }

    /** "has at most 2 parents"; extend: "it has two". */
    private static void extendWithTwoParents() {
        StandInMill x = withFaces(12);
        CHECK.due("one", x.extend(35, 34), true);
        CHECK.due("two", x.extend(35, 24), true);
        for (int parent = 24; parent <= 35; parent++) {
            CHECK.due("a third, " + parent, x.extend(35, parent), false);
        }
        CHECK.due("it is not below a third", x.below(35, 25), false);
        CHECK.due("another one has its own two", x.extend(34, 33) && x.extend(34, 24), true);
        CHECK.due("and no third", x.extend(34, 25), false);
    }

    /** extend: "or a stand-in class has been made". */
    private static void extendBehindAStandInClass() {
        StandInMill x = withFaces(3);
        x.loader(0);
        CHECK.due("before", x.extend(25, 24), true);
        Check.stand(x, 1, 24);
        CHECK.due("behind", x.extend(26, 24), false);
        CHECK.due("nothing came", x.below(26, 24), false);
        x.face(0, 9, 0, true);
        CHECK.due("a new one neither", x.extend(27, 24), false);
    }

    /** What comes behind a refused stand is in the next class. */
    private static void extendBehindARefusedStand() {
        StandInMill x = withFaces(4);
        x.method(24, 0, 5);
        x.method(25, 0, 6);
        x.method(26, 1, 5);
        CHECK.due("twice", Check.stand(x, 0, 24, 24), Check.ILLEGAL);
        CHECK.due("they disagree", Check.stand(x, 0, 24, 25, 26), Check.ILLEGAL);
        CHECK.due("no interface", Check.stand(x, 0, 36), Check.OUT_OF_BOUNDS);
        CHECK.due("no loader", Check.stand(x, 9, 24), Check.OUT_OF_BOUNDS);
        CHECK.due("no class has been made", x.extend(26, 24), true);
        CHECK.due("nor here", Check.stand(x, 0, 26, 25), Check.ILLEGAL);
        CHECK.due("they disagree by a parent now", x.fault(), 4);
        CHECK.due("no class has been made", x.extend(27, 26), true);
        CHECK.due("made", Check.stand(x, 0, 27), 0);
        methods("with both parents'", x, 0, of(26, 0), of(24, 0));
    }

    private static void refusedExtendsLeaveNothing() {
        StandInMill x = withFaces(3);
        x.method(24, 0, 5);
        x.method(26, 1, 5);
        x.extend(25, 26);
        x.extend(25, 25);
        x.extend(24, 25);
        Check.stand(x, 0, 25);
        CHECK.due("no methods came", x.about(0, 2), 3);
        CHECK.due("not below", x.below(24, 25), false);
    }

    private static void methods(String what, StandInMill x, int stand, int[]... want) {
        CHECK.due(what + ": how many", x.about(stand, 2), 3 + want.length);
        for (int i = 0; i < want.length; i++) {
            CHECK.due(what + ": owner of " + i, x.told(stand, 3 + i, 5), want[i][0]);
            CHECK.due(what + ": number of " + i, x.told(stand, 3 + i, 6), want[i][1]);
        }
    }

    private static int[] of(int owner, int number) {
        return new int[] {owner, number};
    }

    /** "Its METHODS: its own, in order". */
    private static void methodsAreItsOwnInOrder() {
        StandInMill x = withFaces(2);
        int[] names = {9, 0, 25, 5, 1, 7};
        for (int name : names) {
            x.method(24, name, 5);
        }
        Check.stand(x, 0, 24);
        methods("six", x, 0, of(24, 0), of(24, 1), of(24, 2), of(24, 3), of(24, 4), of(24, 5));
        for (int m = 0; m < names.length; m++) {
            CHECK.due("name " + m, x.told(0, 3 + m, 0), names[m]);
        }
        Check.stand(x, 0, 25);
        methods("none", x, 1);
    }

    /** "and of each parent, in order, the METHODS of it": the order is that of the extends. */
    private static void methodsOfEachParentInOrder() {
        StandInMill x = withFaces(4);
        for (int f = 24; f <= 27; f++) {
            x.method(f, f - 24, 5);
            x.method(f, f - 14, 5);
        }
        x.extend(26, 25);
        x.extend(26, 24);
        x.extend(27, 24);
        x.extend(27, 25);
        Check.stand(x, 0, 26);
        methods("later first", x, 0, of(26, 0), of(26, 1), of(25, 0), of(25, 1), of(24, 0), of(24, 1));
        Check.stand(x, 0, 27);
        methods("earlier first", x, 1, of(27, 0), of(27, 1), of(24, 0), of(24, 1), of(25, 0), of(25, 1));
    }

    /** "whose SIGNATURE none of its own has": whatever the results are. */
    private static void methodsHideAParentsOfTheSameSignature() {
        StandInMill x = withFaces(3);
        x.method(24, 0, 5 | 5 << 8);
        x.method(24, 1, 5);
        x.method(24, 2, 0);
        x.method(25, 1, 6);
        x.method(25, 2, 7);
        x.method(25, 0, 5 | 5 << 8);
        x.throwing(24, 0, 8);
        x.extend(25, 24);
        CHECK.due("a PLAIN result hides another", Check.stand(x, 0, 25), 0);
        methods("its own alone", x, 0, of(25, 0), of(25, 1), of(25, 2));
        CHECK.due("what the hidden one may throw does not count", x.told(0, 5, 16), 0);
        Check.stand(x, 0, 24);
        methods("the parent's", x, 1, of(24, 0), of(24, 1), of(24, 2));
        CHECK.due("in a list both are there, and disagree", Check.stand(x, 0, 25, 24), Check.ILLEGAL);
        CHECK.due("fault", x.fault(), 4);
    }

    private static void methodsHideAGrandparents() {
        StandInMill x = withFaces(3);
        x.method(24, 0, 5);
        x.method(24, 1, 5);
        x.method(26, 0, 6);
        x.extend(25, 24);
        x.extend(26, 25);
        CHECK.due("made", Check.stand(x, 0, 26), 0);
        methods("hidden two above", x, 0, of(26, 0), of(24, 1));
        Check.stand(x, 0, 25);
        methods("not for the one between", x, 1, of(24, 0), of(24, 1));
    }

    private static void methodsHideNoOtherSignature() {
        StandInMill x = withFaces(2);
        x.method(24, 0, 5 | 5 << 8 | 6 << 16);
        x.method(24, 0, 5 | 6 << 8 | 5 << 16);
        x.method(24, 0, 5 | 5 << 8);
        x.method(24, 0, 5);
        x.method(24, 1, 5);
        x.method(25, 0, 5 | 5 << 8 | 6 << 16 | 5 << 24);
        x.method(25, 2, 5);
        x.extend(25, 24);
        Check.stand(x, 0, 25);
        methods("all", x, 0, of(25, 0), of(25, 1), of(24, 0), of(24, 1), of(24, 2), of(24, 3), of(24, 4));
    }

    /** Only its own hide: a parent's METHODS stay beside the other parent's. */
    private static void parentsHideNothingOfOneAnother() {
        StandInMill x = withFaces(3);
        x.method(24, 0, 8);
        x.method(25, 0, 9);
        x.extend(26, 24);
        x.extend(26, 25);
        CHECK.due("made", Check.stand(x, 0, 26), 0);
        methods("both", x, 0, of(24, 0), of(25, 0));
        StandInMill y = withFaces(3);
        y.method(24, 0, 5);
        y.method(25, 0, 6);
        y.extend(26, 24);
        y.extend(26, 25);
        CHECK.due("both, and they disagree", Check.stand(y, 0, 26), Check.ILLEGAL);
        CHECK.due("fault", y.fault(), 4);
    }

    private static void hiddenByOneParentAlone() {
        StandInMill x = withFaces(4);
        x.method(24, 0, 5);
        x.method(25, 0, 6);
        x.extend(25, 24);
        x.extend(26, 25);
        x.extend(27, 25);
        x.extend(27, 24);
        CHECK.due("hidden by the only way", Check.stand(x, 0, 26), 0);
        methods("the lower one", x, 0, of(25, 0));
        CHECK.due("it comes by the other way, and they disagree", Check.stand(x, 0, 27), Check.ILLEGAL);
        CHECK.due("fault", x.fault(), 4);
    }

    private static void methodsOfTheWholeChain() {
        StandInMill x = withFaces(12);
        for (int f = 35; f >= 24; f--) {
            x.method(f, f - 24, 5);
            x.extend(f, f - 1);
        }
        Check.stand(x, 0, 35);
        methods("twelve", x, 0, of(35, 0), of(34, 0), of(33, 0), of(32, 0), of(31, 0), of(30, 0), of(29, 0), of(28, 0),
                of(27, 0), of(26, 0), of(25, 0), of(24, 0));
        Check.stand(x, 0, 25);
        methods("two", x, 1, of(25, 0), of(24, 0));
    }

    /** Each has the two before it as parents, so that 25's method comes to 34 by 55 ways; it counts once. */
    private static void methodsThatComeByManyWays() {
        StandInMill x = withFaces(12);
        x.method(24, 25, 5);
        x.method(35, 0, 5);
        x.extend(35, 34);
        x.extend(35, 24);
        for (int f = 25; f <= 34; f++) {
            x.method(f, f - 24, 5);
            x.method(f, 1, 5 | 5 << 8);
            if (f >= 27) {
                x.extend(f, f - 1);
                x.extend(f, f - 2);
            }
        }
        x.extend(26, 25);
        CHECK.due("made", Check.stand(x, 0, 35), 0);
        methods("each once, the last parent's at the end", x, 0, of(35, 0), of(34, 0), of(34, 1), of(33, 0), of(32, 0),
                of(31, 0), of(30, 0), of(29, 0), of(28, 0), of(27, 0), of(26, 0), of(25, 0), of(24, 0));
    }

    /** "ROOT has three: name 26, no parameters, result 5; name 27, a parameter 7, result 1; name 28, .. result 7." */
    private static void rootsThree() {
        StandInMill x = withFaces(1);
        Check.stand(x, 0, 24);
        int[][] want = {{26, 5, 0, 0, 0, 7, 0}, {27, 1, 7, 0, 0, 7, 1}, {28, 7, 0, 0, 0, 7, 2}};
        for (int k = 0; k < 3; k++) {
            for (int what = 0; what <= 6; what++) {
                CHECK.due("ROOT's " + k + ", what " + what, x.told(0, k, what), want[k][what]);
            }
            CHECK.due("it may throw nothing", x.told(0, k, 16), 0);
        }
        CHECK.due("no fourth", x.told(0, 3, 0), -1);
    }
}
