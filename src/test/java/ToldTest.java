/** Promise 15: told, with the order of the methods, what they may THROW and what is CAUGHT. */
public final class ToldTest {
    private static final Check CHECK = new Check();

    public static void main(String[] args) {
        rootsThree();
        whats();
        ownBeforeParents();
        sameSignatureTogether();
        aMethodByTwoWays();
        hiddenByOneWayAlone();
        thrownOfSeveral();
        thrownBelowTheOther();
        thrownOfRoots();
        allSixteenThrown();
        caught();
        caughtOfThrown();
        caughtKeepsOrder();
        CHECK.end();
    }

    private static void method(StandInMill x, int stand, int k, int name, int result, int owner, int number) {
        CHECK.due("name of " + k, x.told(stand, k, 0), name);
        CHECK.due("result of " + k, x.told(stand, k, 1), result);
        CHECK.due("owner of " + k, x.told(stand, k, 5), owner);
        CHECK.due("number of " + k, x.told(stand, k, 6), number);
    }

    private static void row(String what, StandInMill x, int k, int from, int... want) {
        for (int i = 0; i < 16; i++) {
            CHECK.due(what + " " + i, x.told(0, k, from + i), i < want.length ? want[i] : 0);
        }
    }

    private static void rootsThree() {
        StandInMill x = new StandInMill();
        x.face(0, 0, 0, true);
        Check.stand(x, 0, 24);
        method(x, 0, 0, 26, 5, 7, 0);
        method(x, 0, 1, 27, 1, 7, 1);
        method(x, 0, 2, 28, 7, 7, 2);
        CHECK.due("26 has no parameter", x.told(0, 0, 2), 0);
        CHECK.due("27 has one", x.told(0, 1, 2), 7);
        CHECK.due("27 has no other", x.told(0, 1, 3), 0);
        CHECK.due("28 has none", x.told(0, 2, 2), 0);
        CHECK.due("no fourth", x.told(0, 3, 0), -1);
        for (int k = 0; k < 3; k++) {
            row("thrown", x, k, 16);
            row("caught", x, k, 32, 9, 10);
        }
    }

    private static void whats() {
        StandInMill x = new StandInMill();
        x.face(0, 0, 0, true);
        x.method(24, 9, 0);
        x.method(24, 3, 4 | 46 << 8 | 6 << 16 | 24 << 24);
        CHECK.due("no class", x.told(0, 0, 0), -1);
        Check.stand(x, 0, 24);
        method(x, 0, 4, 3, 4, 24, 1);
        CHECK.due("first", x.told(0, 4, 2), 46);
        CHECK.due("second", x.told(0, 4, 3), 6);
        CHECK.due("third", x.told(0, 4, 4), 24);
        CHECK.due("no value", x.told(0, 3, 1), 0);
        int[] others = {-1, 7, 8, 15, 48, 64, Integer.MIN_VALUE};
        for (int what : others) {
            CHECK.due("what " + what, x.told(0, 4, what), -1);
        }
        CHECK.due("the last thrown", x.told(0, 4, 31), 0);
        CHECK.due("the last caught", x.told(0, 4, 47), 0);
        CHECK.due("no method", x.told(0, 5, 0), -1);
        CHECK.due("no method below", x.told(0, -1, 16), -1);
        CHECK.due("no class", x.told(1, 0, 0), -1);
        CHECK.due("no class below", x.told(-1, 0, 32), -1);
    }

    private static void ownBeforeParents() {
        StandInMill x = new StandInMill();
        for (int f = 0; f < 3; f++) {
            x.face(0, f, 0, true);
        }
        x.method(24, 0, 5);
        x.method(24, 1, 5);
        x.method(25, 2, 5);
        x.method(25, 1, 5);
        x.method(26, 3, 5);
        x.method(26, 0, 5);
        x.extend(26, 25);
        x.extend(26, 24);
        Check.stand(x, 0, 26);
        CHECK.due("methods", x.about(0, 2), 7);
        method(x, 0, 3, 3, 5, 26, 0);
        method(x, 0, 4, 0, 5, 26, 1);
        method(x, 0, 5, 2, 5, 25, 0);
        method(x, 0, 6, 1, 5, 25, 1);
    }

    private static void sameSignatureTogether() {
        StandInMill x = new StandInMill();
        for (int f = 0; f < 3; f++) {
            x.face(0, f, 0, true);
        }
        x.method(24, 0, 7);
        x.method(24, 1, 5);
        x.method(25, 1, 5 | 5 << 8);
        x.method(25, 0, 8);
        x.method(26, 28, 24);
        x.method(26, 0, 9);
        Check.stand(x, 0, 24, 25, 26);
        CHECK.due("methods", x.about(0, 2), 9);
        method(x, 0, 2, 28, 7, 7, 2);
        method(x, 0, 3, 28, 24, 26, 0);
        method(x, 0, 4, 0, 7, 24, 0);
        method(x, 0, 5, 0, 8, 25, 1);
        method(x, 0, 6, 0, 9, 26, 1);
        method(x, 0, 7, 1, 5, 24, 1);
        method(x, 0, 8, 1, 5, 25, 0);
    }

    private static void aMethodByTwoWays() {
        StandInMill x = new StandInMill();
        for (int f = 0; f < 12; f++) {
            x.face(0, f, 0, true);
            x.method(24 + f, f, 5);
            x.extend(24 + f, 24 + f - 1);
            x.extend(24 + f, 24 + f - 2);
        }
        x.throwing(24, 0, 9);
        Check.stand(x, 0, 35, 34);
        CHECK.due("each once", x.about(0, 2), 15);
        method(x, 0, 3, 11, 5, 35, 0);
        method(x, 0, 14, 0, 5, 24, 0);
        row("thrown", x, 14, 16, 9);
    }

    private static void hiddenByOneWayAlone() {
        StandInMill x = new StandInMill();
        for (int f = 0; f < 4; f++) {
            x.face(0, f, 0, true);
        }
        x.method(24, 0, 7);
        x.method(25, 0, 8);
        x.extend(25, 24);
        x.extend(26, 25);
        x.extend(26, 24);
        x.extend(27, 25);
        Check.stand(x, 0, 26);
        CHECK.due("both", x.about(0, 2), 5);
        method(x, 0, 3, 0, 8, 25, 0);
        method(x, 0, 4, 0, 7, 24, 0);
        Check.stand(x, 0, 27);
        CHECK.due("hidden", x.about(1, 2), 4);
        method(x, 1, 3, 0, 8, 25, 0);
    }

    /** Interfaces with one method of one SIGNATURE each, that may THROW these. */
    private static StandInMill throwing(int[]... rows) {
        StandInMill x = new StandInMill();
        x.type(8);
        x.type(11);
        x.type(11);
        x.type(8);
        x.type(7);
        x.type(9);
        for (int f = 0; f < rows.length; f++) {
            x.face(0, f, 0, true);
            x.method(24 + f, 0, 0);
            for (int type : rows[f]) {
                x.throwing(24 + f, 0, type);
            }
        }
        return x;
    }

    private static int[] of(int... classes) {
        return classes;
    }

    private static void thrownOfSeveral() {
        StandInMill x = throwing(of(12, 8, 14), of(14, 13, 8), of(11, 9));
        Check.stand(x, 0, 24, 25, 26);
        row("thrown", x, 3, 16, 12, 13, 11, 9);
        CHECK.due("it stays the first one's", x.told(0, 3, 5), 24);
        StandInMill y = throwing(of(12, 8, 14), of(14, 13, 8), of(11, 9));
        Check.stand(y, 0, 26, 25, 24);
        row("turned", y, 3, 16, 11, 9, 13, 12);
        StandInMill z = throwing(of(12, 8, 14), of(14, 13, 8));
        Check.stand(z, 0, 24, 25);
        row("two", z, 3, 16, 12, 8, 14, 13);
    }

    private static void thrownBelowTheOther() {
        StandInMill x = throwing(of(11, 15), of(12, 14, 7));
        Check.stand(x, 0, 24, 25);
        row("thrown", x, 3, 16, 12);
        StandInMill y = throwing(of(11, 15), of());
        Check.stand(y, 0, 24, 25);
        row("nothing", y, 3, 16);
    }

    private static void thrownOfRoots() {
        StandInMill x = new StandInMill();
        x.face(0, 0, 0, true);
        x.method(24, 28, 7);
        x.throwing(24, 0, 8);
        Check.stand(x, 0, 24);
        CHECK.due("ROOT's", x.told(0, 2, 5), 7);
        row("thrown", x, 2, 16);
        row("caught", x, 2, 32, 9, 10);
    }

    private static void allSixteenThrown() {
        StandInMill x = new StandInMill();
        while (x.type(8) != -1) {
            CHECK.due("a class", true, true);
        }
        for (int f = 0; f < 8; f++) {
            x.face(0, f, 0, true);
            x.method(24 + f, 0, 0);
            x.throwing(24 + f, 0, 8);
            x.throwing(24 + f, 0, 9 + 2 * f);
            x.throwing(24 + f, 0, 10 + 2 * f);
        }
        x.extend(28, 24);
        x.face(0, 8, 0, true);
        x.extend(32, 24);
        x.extend(32, 25);
        x.face(0, 9, 0, true);
        x.extend(33, 26);
        x.extend(33, 27);
        x.face(0, 10, 0, true);
        x.extend(34, 28);
        x.extend(34, 29);
        x.face(0, 11, 0, true);
        x.extend(35, 30);
        x.extend(35, 31);
        Check.stand(x, 0, 32, 33, 34, 35);
        row("thrown", x, 3, 16, 8, 9, 10, 11, 12, 13, 14, 15, 16, 17, 18, 19, 20, 21, 22, 23);
        row("caught", x, 3, 32);
    }

    private static void caught() {
        StandInMill x = throwing(of(12, 13, 11));
        Check.stand(x, 0, 24);
        row("those below go", x, 3, 32, 9, 10, 11);
        StandInMill y = throwing(of(11, 12, 14));
        Check.stand(y, 0, 24);
        row("one below comes not", y, 3, 32, 9, 10, 11, 14);
        StandInMill z = throwing(of(15, 16, 10));
        Check.stand(z, 0, 24);
        row("not below THROWN, below LOOSE, there", z, 3, 32, 9, 10);
    }

    private static void caughtOfThrown() {
        StandInMill x = throwing(of(14, 8, 12));
        Check.stand(x, 0, 24);
        row("empty, and that is all", x, 3, 32);
        row("but thrown", x, 3, 16, 14, 8, 12);
    }

    private static void caughtKeepsOrder() {
        StandInMill x = throwing(of(12, 14, 11));
        Check.stand(x, 0, 24);
        row("to the end", x, 3, 32, 9, 10, 14, 11);
    }
}
