/** The edges of each OUTCOME in the terms, and of promises 17 and 19: handler, outcome. A test for each sentence. */
public final class OutcomeEdgesTest {
    private static final Check CHECK = new Check();

    /** An object of each type: class 11 is of ROOT, 12 of THROWN, 13 of 12, 14 of LOOSE. */
    private static final int[] OBJECTS = {8, 9, 10, 11, 12, 13, 14, 41, 42, 43, 44, 45, 46};

    public static void main(String[] args) {
        handlerWithoutSuchAClass();
        handlerWithoutSuchAnObject();
        handlerWithTheLastObject();
        handlerAnswersNoneAtFirst();
        handlerAnswersNoneAgain();
        handlerAnswersFromNowOn();
        handlerThrowsWhatIsThrown();
        handlerDoesNotThrowNone();
        refusedHandlersLeaveWhatWasSet();
        eachClassHasItsHandler();
        resultIsNoValue();
        plainResultOfNone();
        plainResultOfAWrongObject();
        plainResultOfItsBox();
        otherResultOfNone();
        otherResultOfAWrongObject();
        otherResultOfAnObjectBelow();
        thrownIfCaught();
        thrownIfNoneIsCaught();
        thrownAsWrapped();
        thrownWhateverTheResult();
        outcomeAtFirst();
        outcomeIsNoneForNothing();
        outcomeOfTheLatestCall();
        callThatThrowsLeavesTheOutcome();
        CHECK.end();
    }

    /** A class, 0, of one interface with a method, 3, of this result that may THROW these; OBJECTS are made. */
    private static StandInMill ofResult(int result, int... thrown) {
        StandInMill x = new StandInMill();
        x.face(0, 0, 0, true);
        x.type(7);
        x.type(8);
        x.type(12);
        x.type(9);
        x.method(24, 0, result);
        for (int type : thrown) {
            CHECK.due("throwing " + type, x.throwing(24, 0, type), true);
        }
        CHECK.due("the class", Check.stand(x, 0, 24), 0);
        for (int i = 0; i < OBJECTS.length; i++) {
            CHECK.due("object " + i, x.object(OBJECTS[i], 1), i);
        }
        return x;
    }

    private static void call(String what, StandInMill x, int want, long outcome) {
        CHECK.due(what, Check.call(x, 0, 3, 0, 0, 0), want);
        CHECK.due(what + ": outcome", x.outcome(), outcome);
    }

    /** handler: "false if there is no such class". */
    private static void handlerWithoutSuchAClass() {
        StandInMill x = new StandInMill();
        x.face(0, 0, 0, true);
        x.object(8, 0);
        CHECK.due("0 of none", x.handler(0, 0, false), false);
        Check.stand(x, 0, 24);
        CHECK.due("0 of one", x.handler(0, 0, false), true);
        CHECK.due("1 of one", x.handler(1, 0, false), false);
        CHECK.due("1 of one, NONE", x.handler(1, -1, false), false);
        CHECK.due("1 of one, throwing", x.handler(1, 0, true), false);
        for (int far : Check.farFrom(0)) {
            CHECK.due("class " + far, x.handler(far, 0, false), false);
            CHECK.due("class " + far + ", throwing", x.handler(far, 0, true), false);
        }
    }

    /** handler: "or object". NONE is one to answer. */
    private static void handlerWithoutSuchAnObject() {
        StandInMill x = new StandInMill();
        x.face(0, 0, 0, true);
        Check.stand(x, 0, 24);
        CHECK.due("0 of none", x.handler(0, 0, false), false);
        CHECK.due("0 of none, throwing", x.handler(0, 0, true), false);
        x.object(8, 0);
        CHECK.due("0 of one", x.handler(0, 0, false), true);
        CHECK.due("0 of one, throwing", x.handler(0, 0, true), true);
        CHECK.due("1 of one", x.handler(0, 1, false), false);
        for (int far : Check.farFrom(0)) {
            CHECK.due("object " + far, x.handler(0, far, false), far == -1);
            CHECK.due("object " + far + ", throwing", x.handler(0, far, true), false);
        }
    }

    private static void handlerWithTheLastObject() {
        StandInMill x = new StandInMill();
        x.face(0, 0, 0, true);
        Check.stand(x, 0, 24);
        for (int i = 0; i < 32; i++) {
            x.object(8, i);
        }
        CHECK.due("31", x.handler(0, 31, false), true);
        CHECK.due("call", Check.call(x, 0, 2, 0, 0, 0), 1);
        CHECK.due("is answered", x.outcome(), 31);
        CHECK.due("32", x.handler(0, 32, false), false);
        CHECK.due("32, throwing", x.handler(0, 32, true), false);
    }

    /** handler: "(or NONE, as at first)". */
    private static void handlerAnswersNoneAtFirst() {
        call("a class", ofResult(8), 1, -1);
        call("PLAIN", ofResult(5), 2, -1);
        call("no value", ofResult(0), 0, -1);
    }

    private static void handlerAnswersNoneAgain() {
        StandInMill x = ofResult(7);
        x.handler(0, 0, false);
        call("an object", x, 1, 0);
        CHECK.due("NONE", x.handler(0, -1, false), true);
        call("NONE", x, 1, -1);
        x.handler(0, 1, true);
        call("thrown", x, 4, 1);
        CHECK.due("NONE again", x.handler(0, -1, false), true);
        call("NONE again", x, 1, -1);
    }

    /** handler: "answers this object from now on .., or throws it: true". */
    private static void handlerAnswersFromNowOn() {
        StandInMill x = ofResult(7);
        x.handler(0, 2, false);
        call("answered", x, 1, 2);
        call("once more", x, 1, 2);
        x.handler(0, 2, true);
        call("thrown", x, 4, 2);
        call("once more", x, 4, 2);
        x.handler(0, 2, false);
        call("answered again", x, 1, 2);
    }

    /** handler: "or it is to throw what is not of a type BELOW THROWN". */
    private static void handlerThrowsWhatIsThrown() {
        StandInMill x = ofResult(0);
        for (int i = 0; i < OBJECTS.length; i++) {
            boolean thrown = OBJECTS[i] <= 14 && OBJECTS[i] != 11;
            CHECK.due("throwing one of " + OBJECTS[i], x.handler(0, i, true), thrown);
            CHECK.due("answering one of " + OBJECTS[i], x.handler(0, i, false), true);
        }
    }

    private static void handlerDoesNotThrowNone() {
        StandInMill x = ofResult(7);
        CHECK.due("at first", x.handler(0, -1, true), false);
        call("NONE is answered", x, 1, -1);
    }

    private static void refusedHandlersLeaveWhatWasSet() {
        StandInMill x = ofResult(7);
        x.handler(0, 3, false);
        int[][] wrong = {{0, 13}, {0, -2}, {1, 0}, {-1, 0}, {0, Integer.MAX_VALUE}};
        for (int[] pair : wrong) {
            CHECK.due("refused", x.handler(pair[0], pair[1], false), false);
            CHECK.due("refused", x.handler(pair[0], pair[1], true), false);
            call("stays an answer", x, 1, 3);
        }
        CHECK.due("a BOX is not thrown", x.handler(0, 12, true), false);
        CHECK.due("NONE is not thrown", x.handler(0, -1, true), false);
        call("stays an answer", x, 1, 3);
        x.handler(0, 4, true);
        CHECK.due("what is of ROOT is not thrown", x.handler(0, 3, true), false);
        CHECK.due("no such object", x.handler(0, 13, false), false);
        call("stays thrown", x, 5, 4);
    }

    /** "The class's HANDLER": each has its own, and the same class keeps it. */
    private static void eachClassHasItsHandler() {
        StandInMill x = ofResult(7);
        x.loader(0);
        x.loader(0);
        Check.stand(x, 1, 24);
        Check.stand(x, 2, 24);
        x.handler(0, 1, false);
        x.handler(2, 2, true);
        int[] outcomes = {1, 1, 4};
        int[] objects = {1, -1, 2};
        for (int s = 0; s < 3; s++) {
            CHECK.due("stands again", Check.stand(x, s, 24), s);
            CHECK.due("outcome of " + s, Check.call(x, s, 3, 0, 0, 0), outcomes[s]);
            CHECK.due("object of " + s, x.outcome(), objects[s]);
        }
        Check.stand(x, 0, 24, 24);
        CHECK.due("a fault changes none", Check.call(x, 2, 3, 0, 0, 0), 4);
    }

    /** "if it answers: result 0: 0" */
    private static void resultIsNoValue() {
        StandInMill x = ofResult(0);
        for (int i = -1; i < OBJECTS.length; i++) {
            x.handler(0, i, false);
            call("object " + i, x, 0, -1);
        }
    }

    /** "PLAIN: NONE: 2 (nothing to unbox)" */
    private static void plainResultOfNone() {
        for (int plain = 1; plain <= 6; plain++) {
            call("PLAIN " + plain, ofResult(plain), 2, -1);
        }
    }

    /** "an object that is not of its BOX: 3 (a wrong one)" */
    private static void plainResultOfAWrongObject() {
        for (int plain = 1; plain <= 6; plain++) {
            StandInMill x = ofResult(plain);
            for (int i = 0; i < OBJECTS.length; i++) {
                x.handler(0, i, false);
                boolean right = OBJECTS[i] == 40 + plain;
                call("object of " + OBJECTS[i] + " for " + plain, x, right ? 1 : 3, right ? 1 : -1);
            }
        }
    }

    /** "else 1, with the BOX's value" */
    private static void plainResultOfItsBox() {
        long[] smallest = {0, -128, 0, -32768, Integer.MIN_VALUE, Long.MIN_VALUE};
        long[] largest = {1, 127, 65535, 32767, Integer.MAX_VALUE, Long.MAX_VALUE};
        for (int plain = 1; plain <= 6; plain++) {
            StandInMill x = ofResult(plain);
            long[] values = {smallest[plain - 1], largest[plain - 1], 0, 1};
            for (long value : values) {
                x.handler(0, x.object(40 + plain, value), false);
                call("BOX of " + value, x, 1, value);
            }
            x.handler(0, x.object(40 + plain, -1), false);
            call("BOX of -1", x, 1, plain == 1 ? 1 : plain == 3 ? 65535 : -1);
        }
    }

    /** "else 1, with the object, or NONE" */
    private static void otherResultOfNone() {
        int[] results = {7, 8, 11, 13, 24, 41, 46};
        for (int result : results) {
            call("NONE for " + result, ofResult(result), 1, -1);
        }
    }

    private static boolean isBelow(int type, int result) {
        return type == result || result == 7
                || result == 8 && type >= 9 && type <= 14 && type != 11
                || result == 12 && type == 13
                || result == 9 && type == 14;
    }

    private static void answered(int result) {
        StandInMill x = ofResult(result);
        for (int i = 0; i < OBJECTS.length; i++) {
            x.handler(0, i, false);
            boolean right = isBelow(OBJECTS[i], result);
            call("object of " + OBJECTS[i] + " for " + result, x, right ? 1 : 3, right ? i : -1);
        }
    }

    /** "Else: an object whose type is not BELOW the result: 3": no object is BELOW an interface. */
    private static void otherResultOfAWrongObject() {
        answered(24);
        answered(11);
        answered(14);
        answered(13);
    }

    /** "else 1, with the object": of a BOX too, not its value. */
    private static void otherResultOfAnObjectBelow() {
        answered(7);
        answered(8);
        answered(9);
        answered(12);
        for (int box = 41; box <= 46; box++) {
            answered(box);
        }
    }

    private static void thrown(int result, int[] mayThrow, int... caught) {
        StandInMill x = ofResult(result, mayThrow);
        for (int i = 0; i < OBJECTS.length; i++) {
            if (x.handler(0, i, true)) {
                boolean isCaught = caught.length == 0;
                for (int type : caught) {
                    isCaught |= isBelow(OBJECTS[i], type);
                }
                call("thrown, of " + OBJECTS[i], x, isCaught ? 4 : 5, i);
            }
        }
    }

    private static int[] of(int... classes) {
        return classes;
    }

    /** "If it throws: 4, with the object, if its type is BELOW one of those CAUGHT" */
    private static void thrownIfCaught() {
        thrown(0, of(12), 9, 10, 12);
        thrown(0, of(13), 9, 10, 13);
        thrown(0, of(13, 12), 9, 10, 12);
        thrown(0, of(14), 9, 10);
    }

    /** "or none is CAUGHT" */
    private static void thrownIfNoneIsCaught() {
        thrown(0, of(8));
        thrown(7, of(13, 8));
    }

    /** "else 5, with the object, as wrapped" */
    private static void thrownAsWrapped() {
        thrown(0, of(), 9, 10);
        thrown(0, of(11), 9, 10);
        thrown(0, of(9, 10), 9, 10);
    }

    /** A result says nothing about what is thrown, even if the object would be one to answer. */
    private static void thrownWhateverTheResult() {
        int[] results = {0, 1, 5, 6, 7, 8, 9, 11, 12, 24, 46};
        for (int result : results) {
            thrown(result, of(), 9, 10);
            thrown(result, of(12), 9, 10, 12);
        }
    }

    /** outcome: "NONE .. at first". */
    private static void outcomeAtFirst() {
        StandInMill x = ofResult(7);
        CHECK.due("at first", x.outcome(), -1);
        x.handler(0, 5, false);
        CHECK.due("before a call", x.outcome(), -1);
        Check.call(x, 0, 9, 0, 0, 0);
        CHECK.due("behind a call that throws", x.outcome(), -1);
    }

    /** outcome: "NONE for the outcomes 0, 2, 3". */
    private static void outcomeIsNoneForNothing() {
        StandInMill x = ofResult(0);
        int hash = 0;
        x.handler(0, 11, false);
        CHECK.due("ROOT's int", Check.call(x, 0, hash, 0, 0, 0), 1);
        CHECK.due("its value", x.outcome(), 1);
        call("0", x, 0, -1);
        Check.call(x, 0, hash, 0, 0, 0);
        CHECK.due("its value again", x.outcome(), 1);
        x.handler(0, -1, false);
        CHECK.due("2", Check.call(x, 0, hash, 0, 0, 0), 2);
        CHECK.due("2: outcome", x.outcome(), -1);
        x.handler(0, 11, false);
        Check.call(x, 0, hash, 0, 0, 0);
        x.handler(0, 5, false);
        CHECK.due("3", Check.call(x, 0, hash, 0, 0, 0), 3);
        CHECK.due("3: outcome", x.outcome(), -1);
    }

    /** outcome: "What the latest call's OUTCOME has: the value, the object". */
    private static void outcomeOfTheLatestCall() {
        StandInMill x = ofResult(5);
        int box = x.object(45, -77);
        x.handler(0, box, false);
        call("the value", x, 1, -77);
        CHECK.due("ROOT's third answers the object", Check.call(x, 0, 2, 0, 0, 0), 1);
        CHECK.due("the object", x.outcome(), box);
        x.handler(0, 1, true);
        CHECK.due("setting a handler leaves it", x.outcome(), box);
        call("the object thrown", x, 4, 1);
        x.handler(0, 5, true);
        call("the object wrapped", x, 5, 5);
        x.handler(0, -1, false);
        x.object(8, 0);
        Check.stand(x, 0, 24);
        CHECK.due("other calls leave it", x.outcome(), 5);
    }

    /** outcome: "(A call() that throws leaves it ..)". */
    private static void callThatThrowsLeavesTheOutcome() {
        StandInMill x = ofResult(7);
        x.handler(0, 4, false);
        call("the object", x, 1, 4);
        x.handler(0, 5, false);
        CHECK.due("no class", Check.call(x, 1, 3, 0, 0, 0), Check.OUT_OF_BOUNDS);
        CHECK.due("stays", x.outcome(), 4);
        CHECK.due("no method", Check.call(x, 0, 4, 0, 0, 0), Check.OUT_OF_BOUNDS);
        CHECK.due("stays", x.outcome(), 4);
        CHECK.due("no object", Check.call(x, 0, 1, 13, 0, 0), Check.ILLEGAL);
        CHECK.due("stays", x.outcome(), 4);
        CHECK.due("far", Check.call(x, 0, 1, Long.MIN_VALUE, 0, 0), Check.ILLEGAL);
        CHECK.due("stays", x.outcome(), 4);
        call("the next one has it", x, 1, 5);
    }
}
