/** Promises 17 to 20: handler, call, outcome, seen. */
public final class CallTest {
    private static final Check CHECK = new Check();

    private static final int LOOSE_ONE = 0;
    private static final int THROWN_ONE = 1;
    private static final int INT_BOX = 2;
    private static final int LONG_BOX = 3;
    private static final int ROOTED = 4;
    private static final int CHECKED = 5;
    private static final int LOWER = 6;

    public static void main(String[] args) {
        handlers();
        handlersAreApart();
        wrongCalls();
        answersWithoutValue();
        plainAnswers();
        otherAnswers();
        thrown();
        plainParameters();
        otherParameters();
        whatAThrowLeaves();
        rootsMethods();
        CHECK.end();
    }

    /** Class 11 is of ROOT, 12 of THROWN, 13 of 12; objects as named above; one stand-in class, 0, of 24. */
    private static StandInMill mill() {
        StandInMill x = new StandInMill();
        x.type(7);
        x.type(8);
        x.type(12);
        x.object(9, 100);
        x.object(8, 101);
        x.object(45, 102);
        x.object(46, 103);
        x.object(11, 104);
        x.object(12, 105);
        x.object(13, 106);
        x.face(0, 0, 0, true);
        x.method(24, 0, 0);
        x.method(24, 1, 5 | 5 << 8);
        x.method(24, 2, 12 | 12 << 8 | 6 << 16 | 7 << 24);
        x.method(24, 3, 24 | 24 << 8);
        x.method(24, 4, 7 | 1 << 8 | 2 << 16 | 3 << 24);
        x.method(24, 5, 46 | 4 << 8 | 46 << 16);
        x.throwing(24, 0, 12);
        x.throwing(24, 1, 8);
        x.throwing(24, 2, 13);
        CHECK.due("made", Check.stand(x, 0, 24), 0);
        return x;
    }

    private static void call(String what, StandInMill x, int k, int want, long outcome) {
        CHECK.due(what, Check.call(x, 0, k, -1, -1, -1), want);
        CHECK.due(what + ": outcome", x.outcome(), outcome);
    }

    private static void handlers() {
        StandInMill x = mill();
        CHECK.due("no class", x.handler(1, LOOSE_ONE, false), false);
        CHECK.due("no class below", x.handler(-1, LOOSE_ONE, false), false);
        CHECK.due("no object", x.handler(0, 7, false), false);
        CHECK.due("no object below", x.handler(0, -2, false), false);
        call("as at first", x, 7, 1, -1);
        CHECK.due("an object", x.handler(0, LOOSE_ONE, false), true);
        call("is answered", x, 7, 1, LOOSE_ONE);
        CHECK.due("no object to throw", x.handler(0, 7, true), false);
        CHECK.due("NONE is not thrown", x.handler(0, -1, true), false);
        CHECK.due("nor a BOX", x.handler(0, INT_BOX, true), false);
        CHECK.due("nor what is not below THROWN", x.handler(0, ROOTED, true), false);
        call("and nothing has changed", x, 7, 1, LOOSE_ONE);
        CHECK.due("THROWN is", x.handler(0, THROWN_ONE, true), true);
        call("is thrown", x, 7, 5, THROWN_ONE);
        CHECK.due("NONE is answered", x.handler(0, -1, false), true);
        call("is answered", x, 7, 1, -1);
    }

    private static void handlersAreApart() {
        StandInMill x = mill();
        x.loader(0);
        CHECK.due("another class", Check.stand(x, 1, 24), 1);
        x.handler(1, LOOSE_ONE, true);
        call("the first", x, 7, 1, -1);
        CHECK.due("the other", Check.call(x, 1, 7, 0, 0, 0), 4);
        CHECK.due("stands again", Check.stand(x, 1, 24), 1);
        CHECK.due("and keeps it", Check.call(x, 1, 7, 0, 0, 0), 4);
    }

    private static void wrongCalls() {
        StandInMill x = mill();
        CHECK.due("no class", Check.call(x, 1, 0, 0, 0, 0), Check.OUT_OF_BOUNDS);
        CHECK.due("no class below", Check.call(x, -1, 0, 0, 0, 0), Check.OUT_OF_BOUNDS);
        CHECK.due("no method", Check.call(x, 0, 9, 0, 0, 0), Check.OUT_OF_BOUNDS);
        CHECK.due("no method below", Check.call(x, 0, -1, 0, 0, 0), Check.OUT_OF_BOUNDS);
        CHECK.due("no object", Check.call(x, 0, 5, 7, 0, 0), Check.ILLEGAL);
        CHECK.due("no object below", Check.call(x, 0, 5, -2, 0, 0), Check.ILLEGAL);
        CHECK.due("a far one", Check.call(x, 0, 5, (1L << 32) + CHECKED, 0, 0), Check.ILLEGAL);
        CHECK.due("a far NONE", Check.call(x, 0, 5, (1L << 32) - 1, 0, 0), Check.ILLEGAL);
        CHECK.due("not below", Check.call(x, 0, 5, THROWN_ONE, 0, 0), Check.ILLEGAL);
        CHECK.due("a wrong third", Check.call(x, 0, 5, CHECKED, 0, 7), Check.ILLEGAL);
        CHECK.due("object 0 is one", Check.call(x, 0, 5, CHECKED, 0, 0), 1);
        CHECK.due("one not there is not, for ROOT either", Check.call(x, 0, 1, 7, 0, 0), Check.ILLEGAL);
        CHECK.due("right ones", Check.call(x, 0, 5, CHECKED, 99, 6), 1);
        CHECK.due("one below", Check.call(x, 0, 5, LOWER, 99, -1), 1);
        CHECK.due("what is too many does not count", Check.call(x, 0, 6, -1, 99, 99), 1);
        CHECK.due("no object is of an interface", Check.call(x, 0, 6, CHECKED, 0, 0), Check.ILLEGAL);
        CHECK.due("another BOX", Check.call(x, 0, 8, 0, INT_BOX, 0), Check.ILLEGAL);
    }

    private static void answersWithoutValue() {
        StandInMill x = mill();
        call("NONE", x, 3, 0, -1);
        for (int object = 0; object < 7; object++) {
            x.handler(0, object, false);
            call("object " + object, x, 3, 0, -1);
        }
    }

    private static void plainAnswers() {
        StandInMill x = mill();
        call("nothing to unbox", x, 4, 2, -1);
        x.handler(0, INT_BOX, false);
        call("its BOX", x, 4, 1, 102);
        x.handler(0, LONG_BOX, false);
        call("another BOX", x, 4, 3, -1);
        x.handler(0, CHECKED, false);
        call("no BOX", x, 4, 3, -1);
    }

    private static void otherAnswers() {
        StandInMill x = mill();
        x.handler(0, CHECKED, false);
        call("of the class", x, 5, 1, CHECKED);
        x.handler(0, LOWER, false);
        call("of one below", x, 5, 1, LOWER);
        x.handler(0, THROWN_ONE, false);
        call("of one above", x, 5, 3, -1);
        call("no object is of an interface", x, 6, 3, -1);
        call("all are of ROOT", x, 7, 1, THROWN_ONE);
        x.handler(0, LONG_BOX, false);
        call("a BOX is an object here", x, 8, 1, LONG_BOX);
        call("and of ROOT", x, 7, 1, LONG_BOX);
        x.handler(0, -1, false);
        call("NONE for an interface", x, 6, 1, -1);
        call("NONE for a BOX", x, 8, 1, -1);
    }

    private static void thrown() {
        StandInMill x = mill();
        x.handler(0, LOOSE_ONE, true);
        for (int k = 0; k < 9; k++) {
            call("LOOSE is always caught " + k, x, k, 4, LOOSE_ONE);
        }
        x.handler(0, CHECKED, true);
        call("may be thrown", x, 3, 4, CHECKED);
        call("none is caught", x, 4, 4, CHECKED);
        call("above what may be thrown", x, 5, 5, CHECKED);
        call("not told", x, 6, 5, CHECKED);
        x.handler(0, LOWER, true);
        call("below what may be thrown", x, 3, 4, LOWER);
        call("may be thrown", x, 5, 4, LOWER);
        call("ROOT's tell none", x, 0, 5, LOWER);
        x.handler(0, THROWN_ONE, true);
        call("THROWN itself, not told", x, 3, 5, THROWN_ONE);
        call("THROWN itself, told", x, 4, 4, THROWN_ONE);
    }

    private static void seen(StandInMill x, long... want) {
        for (int what = 0; what < 9; what++) {
            CHECK.due("seen " + what, x.seen(what), want[what]);
        }
        CHECK.due("seen 9", x.seen(9), -1);
        CHECK.due("seen -1", x.seen(-1), -1);
    }

    private static void plainParameters() {
        StandInMill x = mill();
        Check.call(x, 0, 7, 256, 384, -2);
        seen(x, 24, 4, 3, 41, 42, 43, 1, -128, 65534);
        Check.call(x, 0, 7, 0, 127, 65536);
        seen(x, 24, 4, 3, 41, 42, 43, 0, 127, 0);
        Check.call(x, 0, 4, (1L << 32) - 1, 7, 7);
        seen(x, 24, 1, 1, 45, -1, -1, -1, -1, -1);
        Check.call(x, 0, 8, 98304, -1, 7);
        seen(x, 24, 5, 2, 44, -1, -1, -32768, 0, -1);
        Check.call(x, 0, 5, -1, Long.MIN_VALUE, -1);
        seen(x, 24, 2, 3, -1, 46, -1, 0, Long.MIN_VALUE, 0);
    }

    private static void otherParameters() {
        StandInMill x = mill();
        Check.call(x, 0, 5, LOWER, 5, INT_BOX);
        seen(x, 24, 2, 3, 13, 46, 45, 106, 5, 102);
        Check.call(x, 0, 3, 1, 2, 3);
        seen(x, 24, 0, 0, -1, -1, -1, -1, -1, -1);
        CHECK.due("a BOX that is seen comes to no number", x.value(7, 0), -1);
        CHECK.due("the next object", x.object(8, 0), 7);
    }

    private static void whatAThrowLeaves() {
        StandInMill x = mill();
        x.handler(0, INT_BOX, false);
        Check.call(x, 0, 4, 77, 0, 0);
        Check.call(x, 0, 5, CHECKED, 1, 99);
        Check.call(x, 0, 50, 1, 1, 1);
        Check.call(x, 9, 0, 1, 1, 1);
        CHECK.due("outcome", x.outcome(), 102);
        seen(x, 24, 1, 1, 45, -1, -1, 77, -1, -1);
    }

    private static void rootsMethods() {
        StandInMill x = mill();
        x.handler(0, INT_BOX, false);
        CHECK.due("26", Check.call(x, 0, 0, 9, 9, 9), 1);
        seen(x, 7, 0, 0, -1, -1, -1, -1, -1, -1);
        CHECK.due("27", Check.call(x, 0, 1, ROOTED, 9, 9), 3);
        seen(x, 7, 1, 1, 11, -1, -1, 104, -1, -1);
        CHECK.due("28", Check.call(x, 0, 2, 9, 9, 9), 1);
        seen(x, 7, 2, 0, -1, -1, -1, -1, -1, -1);
    }
}
