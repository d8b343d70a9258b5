/** Promises 12 to 14: stand, fault, about. */
public final class StandTest {
    private static final Check CHECK = new Check();

    public static void main(String[] args) {
        wrongLists();
        theSameList();
        theSameListInSpiteOfAFault();
        notVisible();
        faultsInTheirOrder();
        packages();
        results();
        resultsAgainstRoot();
        afterAFault();
        howManyMethods();
        howManyClasses();
        whatIsTold();
        CHECK.end();
    }

    private static void stand(String what, StandInMill x, int loader, int list, int want, int fault) {
        CHECK.due(what, Check.standPacked(x, loader, list), want);
        CHECK.due(what + ": fault", x.fault(), fault);
    }

    private static void fault(String what, StandInMill x, int fault, int... faces) {
        stand(what, x, 0, Check.packed(faces), Check.ILLEGAL, fault);
    }

    private static void wrongLists() {
        StandInMill x = new StandInMill();
        x.face(0, 0, 0, true);
        int bad = Check.OUT_OF_BOUNDS;
        fault("a fault first", x, 2, 24, 24);
        stand("empty", x, 0, 0, bad, 0);
        fault("a fault again", x, 2, 24, 24);
        stand("a 0 lowest", x, 0, Check.packed(0, 24), bad, 0);
        stand("no loader", x, 1, 24, bad, 0);
        stand("no loader below", x, -1, 24, bad, 0);
        stand("not made", x, 0, 25, bad, 0);
        stand("a class", x, 0, 8, bad, 0);
        stand("ROOT", x, 0, 7, bad, 0);
        stand("a wrong second", x, 0, Check.packed(24, 5), bad, 0);
        stand("a wrong one goes before a fault", x, 0, Check.packed(24, 24, 25), bad, 0);
        stand("a wrong highest", x, 0, Check.packed(24, 24, 24, 255), bad, 0);
        stand("all bits", x, 0, -1, bad, 0);
        CHECK.due("none is made", x.about(0, 2), -1);
    }

    private static void theSameList() {
        StandInMill x = new StandInMill();
        x.loader(0);
        x.face(0, 0, 0, true);
        x.face(0, 1, 0, true);
        stand("first", x, 0, 24, 0, 0);
        stand("another order", x, 0, Check.packed(24, 25), 1, 0);
        stand("is another one", x, 0, Check.packed(25, 24), 2, 0);
        stand("another loader", x, 1, 24, 3, 0);
        stand("again", x, 0, 24, 0, 0);
        stand("again", x, 0, Check.packed(24, 25), 1, 0);
        stand("what is above 0 does not count", x, 0, Check.packed(24, 0, 25, 99), 0, 0);
        stand("again for another loader", x, 1, 24, 3, 0);
    }

    private static void theSameListInSpiteOfAFault() {
        StandInMill x = new StandInMill();
        x.loader(0);
        x.face(1, 0, 0, true);
        stand("made", x, 1, 24, 0, 0);
        x.face(0, 0, 0, true);
        stand("hidden by now, but the same", x, 1, 24, 0, 0);
        x.loader(1);
        stand("for a new loader it is a fault", x, 2, 24, Check.ILLEGAL, 1);
        stand("the same clears it", x, 1, 24, 0, 0);
    }

    private static void notVisible() {
        StandInMill x = new StandInMill();
        x.loader(0);
        x.loader(0);
        x.face(1, 0, 0, true);
        x.face(2, 1, 0, true);
        x.face(0, 2, 0, true);
        stand("a child's", x, 0, 24, Check.ILLEGAL, 1);
        stand("a neighbour's", x, 2, 24, Check.ILLEGAL, 1);
        stand("the last of a list", x, 2, Check.packed(26, 25, 24), Check.ILLEGAL, 1);
        stand("its own and its parent's", x, 2, Check.packed(26, 25), 0, 0);
    }

    private static void faultsInTheirOrder() {
        StandInMill x = new StandInMill();
        x.loader(0);
        x.face(0, 0, 0, false);
        x.face(0, 1, 1, false);
        x.face(0, 2, 0, true);
        x.face(1, 3, 0, true);
        x.method(24, 0, 5);
        x.method(25, 0, 6);
        x.method(26, 0, 6);
        fault("1 before 2, 3, 4", x, 1, 24, 25, 24, 27);
        fault("2 before 3, 4", x, 2, 24, 25, 24);
        fault("2 at the ends", x, 2, 26, 24, 25, 26);
        fault("3 before 4", x, 3, 24, 25);
        fault("3 with an OPEN one between", x, 3, 24, 26, 25);
        fault("4", x, 4, 24, 26);
        stand("none", x, 0, Check.packed(25, 26), 0, 0);
    }

    private static void packages() {
        StandInMill x = new StandInMill();
        x.loader(0);
        x.face(0, 0, 2, false);
        x.face(0, 1, 1, true);
        x.face(0, 2, 2, false);
        x.face(0, 3, 0, false);
        stand("not OPEN", x, 0, 24, 0, 0);
        stand("OPEN", x, 0, 25, 1, 0);
        stand("OPEN of another package with one that is not", x, 0, Check.packed(25, 26), 2, 0);
        stand("two of one package", x, 0, Check.packed(26, 24), 3, 0);
        stand("of package 0", x, 0, 27, 4, 0);
        stand("another loader counts on", x, 1, 24, 5, 0);
        stand("OPEN again", x, 1, 25, 6, 0);
        int[] packs = {2, 4, 2, 2, 0, 2, 4};
        int[] numbers = {0, 0, 1, 2, 0, 3, 1};
        for (int s = 0; s < packs.length; s++) {
            CHECK.due("package of " + s, x.about(s, 0), packs[s]);
            CHECK.due("number of " + s, x.about(s, 1), numbers[s]);
        }
        fault("different packages", x, 3, 24, 27);
    }

    /** Interfaces of one method each, all of one SIGNATURE, with these results. */
    private static StandInMill ofResults(int... results) {
        StandInMill x = new StandInMill();
        x.type(8);
        x.type(11);
        x.type(11);
        for (int i = 0; i < results.length; i++) {
            x.face(0, i, 0, true);
            x.method(24 + i, 0, results[i] | 5 << 8);
        }
        return x;
    }

    private static void results() {
        int ill = Check.ILLEGAL;
        stand("PLAIN ones", ofResults(5, 6), 0, Check.packed(24, 25), ill, 4);
        stand("PLAIN with its BOX", ofResults(45, 5), 0, Check.packed(24, 25), ill, 4);
        stand("no value", ofResults(7, 0), 0, Check.packed(24, 25), ill, 4);
        stand("the same PLAIN", ofResults(5, 5), 0, Check.packed(24, 25), 0, 0);
        stand("no value twice", ofResults(0, 0), 0, Check.packed(24, 25), 0, 0);
        stand("one below the other", ofResults(8, 11), 0, Check.packed(24, 25), 0, 0);
        stand("and turned", ofResults(11, 8), 0, Check.packed(24, 25), 0, 0);
        stand("the lowest between", ofResults(7, 12, 11), 0, Check.packed(24, 25, 26), 0, 0);
        stand("neighbours", ofResults(12, 13), 0, Check.packed(24, 25), ill, 4);
        stand("neighbours with their parent", ofResults(11, 12, 13), 0, Check.packed(24, 25, 26), ill, 4);
        stand("a third that is below one alone", ofResults(11, 7, 9), 0, Check.packed(24, 25, 26), ill, 4);
        stand("BOX and ROOT", ofResults(7, 43), 0, Check.packed(24, 25), 0, 0);
        StandInMill x = ofResults(24, 25, 26);
        stand("interfaces apart", x, 0, Check.packed(24, 25, 26), ill, 4);
        x.extend(26, 24);
        stand("one parent is not enough", x, 0, Check.packed(24, 25, 26), ill, 4);
        x.extend(26, 25);
        stand("below both", x, 0, Check.packed(24, 25, 26), 0, 0);
    }

    private static void resultsAgainstRoot() {
        StandInMill x = new StandInMill();
        x.face(0, 0, 0, true);
        x.face(0, 1, 0, true);
        x.face(0, 2, 0, true);
        x.method(24, 26, 6);
        x.method(25, 28, 8);
        x.method(26, 27, 7 | 7 << 8);
        fault("26 with another result", x, 4, 24);
        fault("27 with another result", x, 4, 26);
        stand("28 with a result below ROOT", x, 0, 25, 0, 0);
        CHECK.due("has both", x.about(0, 2), 4);
        CHECK.due("ROOT's first", x.told(0, 2, 1), 7);
        CHECK.due("then the other", x.told(0, 3, 1), 8);
    }

    /** What comes between a fault and the next stand is in that one. */
    private static void afterAFault() {
        StandInMill x = ofResults(5, 6);
        fault("a fault", x, 4, 24, 25);
        x.method(25, 1, 5);
        x.face(0, 9, 0, true);
        fault("still", x, 4, 24, 25);
        x.extend(26, 25);
        x.throwing(25, 1, 12);
        stand("a parent and a method", x, 0, 26, 0, 0);
        CHECK.due("methods", x.about(0, 2), 5);
        CHECK.due("the later one", x.told(0, 4, 0), 1);
        CHECK.due("throws", x.told(0, 4, 16), 12);
        CHECK.due("ROOT's throw nothing", x.told(0, 2, 16), 0);
        stand("the next class", x, 0, 24, 1, 0);
        CHECK.due("leaves the first one's methods", x.told(0, 3, 1), 6);
        CHECK.due("and has its own", x.told(1, 3, 1), 5);
    }

    private static void howManyMethods() {
        StandInMill x = new StandInMill();
        for (int f = 0; f < 7; f++) {
            x.face(0, f, 0, true);
            for (int m = 0; m < 6; m++) {
                x.method(24 + f, m, 5 | (f + 1) << 8);
            }
        }
        x.face(0, 7, 0, true);
        x.method(31, 0, 5);
        x.face(0, 8, 0, true);
        x.method(32, 0, 5);
        x.method(32, 1, 5);
        x.face(0, 9, 0, true);
        x.method(33, 0, 6 | 1 << 8);
        x.extend(25, 24);
        x.extend(26, 25);
        x.extend(28, 27);
        x.extend(29, 28);
        fault("41", x, 5, 26, 29, 32);
        fault("4 before 5", x, 4, 26, 29, 32, 33);
        stand("40", x, 0, Check.packed(26, 29, 31), 0, 0);
        CHECK.due("40", x.about(0, 2), 40);
        fault("45", x, 5, 26, 29, 30);
    }

    private static void howManyClasses() {
        StandInMill x = new StandInMill();
        for (int f = 0; f < 4; f++) {
            x.face(0, f, 0, true);
            for (int m = 0; m < 6; m++) {
                x.method(24 + f, m, 5 | (f + 1) << 8);
            }
        }
        x.face(0, 4, 0, true);
        x.method(28, 0, 6 | 1 << 8);
        for (int f = 1; f < 4; f++) {
            for (int m = 0; m < 4; m++) {
                x.face(0, 4 + f, m, true);
            }
        }
        int made = 0;
        for (int a = 24; a < 28; a++) {
            for (int b = 24; b < 28; b++) {
                int list = a == b ? a : Check.packed(a, b);
                stand("class " + made, x, 0, list, made, 0);
                made++;
            }
        }
        fault("there are 16", x, 6, 29);
        fault("1 to 4 go before 6", x, 4, 24, 28);
        stand("one that is there", x, 0, 24, 0, 0);
        CHECK.due("no 17th", x.about(16, 0), -1);
        CHECK.due("the last", x.about(15, 1), 15);
    }

    private static void whatIsTold() {
        StandInMill x = new StandInMill();
        x.loader(0);
        x.face(0, 0, 3, false);
        stand("made", x, 1, 24, 0, 0);
        CHECK.due("package", x.about(0, 0), 3);
        CHECK.due("number", x.about(0, 1), 0);
        CHECK.due("methods", x.about(0, 2), 3);
        CHECK.due("bytes", x.about(0, 3), 3 + 31 + 5 + 21 + 29 + 19);
        CHECK.due("loader", x.about(0, 4), 1);
        CHECK.due("another what", x.about(0, 5), -1);
        CHECK.due("what below", x.about(0, -1), -1);
        CHECK.due("no class", x.about(1, 0), -1);
        CHECK.due("no class below", x.about(-1, 0), -1);
    }
}
