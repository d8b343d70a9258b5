/** Promises 8 and 9: object, value. */
public final class ObjectsTest {
    private static final Check CHECK = new Check();

    public static void main(String[] args) {
        ofWhichTypes();
        limit();
        boxes();
        classes();
        CHECK.end();
    }

    private static void ofWhichTypes() {
        StandInMill x = new StandInMill();
        x.face(0, 0, 0, true);
        int[] none = {-1, 0, 1, 5, 6, 7, 11, 23, 24, 36, 40, 47, 99};
        for (int type : none) {
            CHECK.due("object of " + type, x.object(type, 1), -1);
        }
        int[] some = {8, 9, 10, 41, 42, 43, 44, 45, 46};
        for (int i = 0; i < some.length; i++) {
            CHECK.due("object of " + some[i], x.object(some[i], 1), i);
            CHECK.due("its type", x.value(i, 0), some[i]);
        }
        x.type(9);
        CHECK.due("of a made class", x.object(11, 1), some.length);
    }

    private static void limit() {
        StandInMill x = new StandInMill();
        for (int i = 0; i < 32; i++) {
            CHECK.due("object " + i, x.object(8, i), i);
        }
        CHECK.due("there are 32", x.object(8, 0), -1);
        CHECK.due("the last", x.value(31, 1), 31);
        CHECK.due("no 33rd", x.value(32, 0), -1);
    }

    private static void box(int type, long value, long want) {
        StandInMill x = new StandInMill();
        x.object(type, value);
        CHECK.due("box " + type + " of " + value, x.value(0, 1), want);
    }

    private static void boxes() {
        box(41, 0, 0);
        box(41, 2, 1);
        box(41, -1, 1);
        box(41, 1L << 40, 1);
        box(42, 127, 127);
        box(42, 128, -128);
        box(42, 255, -1);
        box(42, 256, 0);
        box(43, 65535, 65535);
        box(43, 65536, 0);
        box(43, -1, 65535);
        box(44, 32768, -32768);
        box(44, 65535, -1);
        box(44, 65536 + 5, 5);
        box(45, 1L << 31, -(1L << 31));
        box(45, (1L << 32) + 7, 7);
        box(46, Long.MIN_VALUE, Long.MIN_VALUE);
        box(46, Long.MAX_VALUE, Long.MAX_VALUE);
    }

    private static void classes() {
        StandInMill x = new StandInMill();
        x.object(8, Long.MAX_VALUE);
        x.object(9, -300);
        CHECK.due("as it is told", x.value(0, 1), Long.MAX_VALUE);
        CHECK.due("as it is told", x.value(1, 1), -300);
        CHECK.due("another what", x.value(0, 2), -1);
        CHECK.due("what below", x.value(0, -1), -1);
        CHECK.due("no object", x.value(2, 0), -1);
        CHECK.due("NONE", x.value(-1, 1), -1);
    }
}
