/** The edges of OBJECTS in the terms, and of promises 8 and 9: object, value. A test for each sentence. */
public final class ObjectsEdgesTest {
    private static final Check CHECK = new Check();

    public static void main(String[] args) {
        objectOfWhichTypes();
        objectOfFarTypes();
        objectOfAMadeClass();
        objectWhenThereAreThirtyTwo();
        refusedObjectsTakeNoNumber();
        truths();
        bytes();
        characters();
        shorts();
        ints();
        longs();
        valuesOfClassesAreKeptWhole();
        valueWithoutSuchAnObject();
        valueOfAnotherWhat();
        CHECK.end();
    }

    /** "each of a class or a BOX"; object: "NONE if it is none such". */
    private static void objectOfWhichTypes() {
        for (int type = -2; type <= 66; type++) {
            StandInMill x = new StandInMill();
            x.face(0, 0, 0, true);
            boolean some = type >= 8 && type <= 10 || type >= 41 && type <= 46;
            CHECK.due("object of " + type, x.object(type, 1), some ? 0 : -1);
            CHECK.due("its type " + type, x.value(0, 0), some ? type : -1);
            CHECK.due("its value " + type, x.value(0, 1), some ? 1 : -1);
        }
    }

    private static void objectOfFarTypes() {
        StandInMill x = new StandInMill();
        for (int far : Check.farFrom(8)) {
            CHECK.due("object of " + far, x.object(far, 1), -1);
        }
        for (int far : Check.farFrom(41)) {
            CHECK.due("object of " + far, x.object(far, 1), -1);
        }
        CHECK.due("none is there", x.value(0, 0), -1);
    }

    private static void objectOfAMadeClass() {
        StandInMill x = new StandInMill();
        CHECK.due("not made", x.object(11, 1), -1);
        x.type(7);
        CHECK.due("made", x.object(11, 1), 0);
        CHECK.due("the next is not", x.object(12, 1), -1);
    }

    /** "OBJECTS are 0 .. 31"; object: "or there are 32". */
    private static void objectWhenThereAreThirtyTwo() {
        StandInMill x = new StandInMill();
        for (int i = 0; i < 32; i++) {
            CHECK.due("object " + i, x.object(i % 2 == 0 ? 8 : 46, i), i);
        }
        CHECK.due("a 33rd of a class", x.object(8, 99), -1);
        CHECK.due("a 33rd of a BOX", x.object(45, 99), -1);
        CHECK.due("the first stays", x.value(0, 1), 0);
        CHECK.due("the last stays", x.value(31, 1), 31);
        CHECK.due("its type", x.value(31, 0), 46);
        CHECK.due("32 is none", x.value(32, 0), -1);
        CHECK.due("32 is none", x.value(32, 1), -1);
    }

    private static void refusedObjectsTakeNoNumber() {
        StandInMill x = new StandInMill();
        x.object(7, 1);
        x.object(47, 1);
        CHECK.due("the first", x.object(9, 5), 0);
        x.object(24, 1);
        CHECK.due("the second", x.object(10, 6), 1);
        CHECK.due("the first one's", x.value(0, 1), 5);
        CHECK.due("the second one's", x.value(1, 1), 6);
    }

    private static void box(int type, long value, long want) {
        StandInMill x = new StandInMill();
        x.object(type, value);
        CHECK.due("BOX " + type + " of " + value, x.value(0, 1), want);
    }

    /** "a truth 1 or 0 (1 for all but 0)" */
    private static void truths() {
        box(41, 0, 0);
        long[] trues = {1, 2, -1, -2, 256, 1L << 16, 1L << 31, 1L << 32, 1L << 62, Long.MIN_VALUE, Long.MAX_VALUE};
        for (long value : trues) {
            box(41, value, 1);
        }
    }

    /** "a byte, .. : the lowest bits" */
    private static void bytes() {
        box(42, 0, 0);
        box(42, 127, 127);
        box(42, 128, -128);
        box(42, 129, -127);
        box(42, 255, -1);
        box(42, 256, 0);
        box(42, -1, -1);
        box(42, -128, -128);
        box(42, -129, 127);
        box(42, Long.MAX_VALUE, -1);
        box(42, Long.MIN_VALUE, 0);
    }

    /** "character, .. : the lowest bits": it has no sign. */
    private static void characters() {
        box(43, 0, 0);
        box(43, 127, 127);
        box(43, 128, 128);
        box(43, 32767, 32767);
        box(43, 32768, 32768);
        box(43, 65535, 65535);
        box(43, 65536, 0);
        box(43, -1, 65535);
        box(43, -65535, 1);
        box(43, -65536, 0);
        box(43, Long.MAX_VALUE, 65535);
        box(43, Long.MIN_VALUE, 0);
    }

    /** "short, .. : the lowest bits" */
    private static void shorts() {
        box(44, 0, 0);
        box(44, 32767, 32767);
        box(44, 32768, -32768);
        box(44, 65535, -1);
        box(44, 65536, 0);
        box(44, -1, -1);
        box(44, -32768, -32768);
        box(44, -32769, 32767);
        box(44, Long.MAX_VALUE, -1);
        box(44, Long.MIN_VALUE, 0);
    }

    /** "int: the lowest bits" */
    private static void ints() {
        box(45, 0, 0);
        box(45, Integer.MAX_VALUE, Integer.MAX_VALUE);
        box(45, Integer.MAX_VALUE + 1L, Integer.MIN_VALUE);
        box(45, Integer.MIN_VALUE, Integer.MIN_VALUE);
        box(45, Integer.MIN_VALUE - 1L, Integer.MAX_VALUE);
        box(45, (1L << 32) - 1, -1);
        box(45, 1L << 32, 0);
        box(45, -1, -1);
        box(45, Long.MAX_VALUE, -1);
        box(45, Long.MIN_VALUE, 0);
    }

    /** "a value (a long; of a BOX as its PLAIN type has it": a long's is kept whole. */
    private static void longs() {
        long[] values = {0, 1, -1, 1L << 31, 1L << 32, Integer.MIN_VALUE, Long.MIN_VALUE, Long.MAX_VALUE};
        for (long value : values) {
            box(46, value, value);
        }
    }

    private static void valuesOfClassesAreKeptWhole() {
        long[] values = {0, -1, 128, 65536, 1L << 31, 1L << 32, Long.MIN_VALUE, Long.MAX_VALUE};
        for (long value : values) {
            for (int type = 8; type <= 10; type++) {
                box(type, value, value);
            }
        }
    }

    /** value: "NONE if there is none such". */
    private static void valueWithoutSuchAnObject() {
        StandInMill x = new StandInMill();
        for (int i = 0; i < 3; i++) {
            CHECK.due("one beyond " + i, x.value(i, 0), -1);
            CHECK.due("one beyond " + i, x.value(i, 1), -1);
            x.object(9, 100 + i);
            CHECK.due("the highest " + i, x.value(i, 0), 9);
            CHECK.due("the highest " + i, x.value(i, 1), 100 + i);
        }
        for (int far : Check.farFrom(0)) {
            CHECK.due("type of " + far, x.value(far, 0), -1);
            CHECK.due("value of " + far, x.value(far, 1), -1);
        }
        CHECK.due("NONE is no object", x.value(StandInMill.NONE, 0), -1);
    }

    /** "its type (what 0), its value (1 ..)": there is no other what. */
    private static void valueOfAnotherWhat() {
        StandInMill x = new StandInMill();
        x.object(9, 100);
        CHECK.due("what 2", x.value(0, 2), -1);
        for (int far : Check.farFrom(0)) {
            CHECK.due("what " + far, x.value(0, far), -1);
        }
        for (int far : Check.farFrom(1)) {
            CHECK.due("what " + far, x.value(0, far), -1);
        }
    }
}
