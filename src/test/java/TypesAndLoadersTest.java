/** Promises 1 to 3 and 10: a new object, loader, type, below. */
public final class TypesAndLoadersTest {
    private static final Check CHECK = new Check();

    public static void main(String[] args) {
        newObject();
        loaders();
        types();
        belowOfWhatIsThereAtFirst();
        belowOfMadeClasses();
        belowOfInterfaces();
        CHECK.end();
    }

    private static void newObject() {
        StandInMill x = new StandInMill();
        CHECK.due("NONE", StandInMill.NONE, -1);
        CHECK.due("new: fault", x.fault(), 0);
        CHECK.due("new: outcome", x.outcome(), -1);
        for (int what = -2; what <= 10; what++) {
            CHECK.due("new: seen " + what, x.seen(what), -1);
        }
        CHECK.due("new: no object", x.value(0, 0), -1);
        CHECK.due("new: no stand-in", x.about(0, 0), -1);
        CHECK.due("new: no interface", x.method(24, 0, 5), -1);
        CHECK.due("new: nothing is found", x.find(0, 0, 0), -1);
        CHECK.due("new: loader 0 is there", x.face(0, 0, 0, true), 24);
        CHECK.due("new: loader 1 is not", x.face(1, 1, 0, true), -1);
        StandInMill y = new StandInMill();
        CHECK.due("objects share nothing", y.find(0, 0, 0), -1);
    }

    private static void loaders() {
        StandInMill x = new StandInMill();
        CHECK.due("loader of one not there", x.loader(1), -1);
        CHECK.due("loader of NONE", x.loader(-1), -1);
        CHECK.due("loader of far", x.loader(Integer.MAX_VALUE), -1);
        CHECK.due("first", x.loader(0), 1);
        CHECK.due("its own number is no parent yet", x.loader(2), -1);
        CHECK.due("second", x.loader(1), 2);
        CHECK.due("third", x.loader(0), 3);
        CHECK.due("there are four", x.loader(0), -1);
        CHECK.due("still four", x.loader(3), -1);
        CHECK.due("loader 3 makes", x.face(3, 0, 0, true), 24);
        CHECK.due("loader 4 is not there", x.face(4, 0, 1, true), -1);
    }

    private static void types() {
        StandInMill x = new StandInMill();
        int[] wrong = {0, 1, 5, 6, 11, 23, 24, 41, 46, -1, 99, Integer.MIN_VALUE};
        x.face(0, 0, 0, true);
        for (int parent : wrong) {
            CHECK.due("type " + parent, x.type(parent), -1);
        }
        CHECK.due("of ROOT", x.type(7), 11);
        CHECK.due("of THROWN", x.type(8), 12);
        CHECK.due("of LOOSE", x.type(9), 13);
        CHECK.due("of ERROR", x.type(10), 14);
        for (int type = 15; type <= 23; type++) {
            CHECK.due("of the last", x.type(type - 1), type);
        }
        CHECK.due("there are sixteen", x.type(7), -1);
        CHECK.due("there are sixteen still", x.type(23), -1);
        CHECK.due("the last is below ERROR", x.below(23, 10), true);
    }

    private static void belowOfWhatIsThereAtFirst() {
        for (int a = -3; a <= 60; a++) {
            StandInMill x = new StandInMill();
            for (int b = -3; b <= 60; b++) {
                boolean made = a >= 7 && a <= 10 || a >= 41 && a <= 46;
                boolean want = a == b || made && b == 7 || (a == 9 || a == 10) && b == 8;
                CHECK.due("below " + a + " " + b, x.below(a, b), want);
            }
        }
        StandInMill x = new StandInMill();
        CHECK.due("far ones", x.below(Integer.MIN_VALUE, Integer.MIN_VALUE), true);
        CHECK.due("64 more is another", x.below(9 + 64, 8), false);
        CHECK.due("64 more above is another", x.below(9, 8 + 64), false);
    }

    private static void belowOfMadeClasses() {
        StandInMill x = new StandInMill();
        CHECK.due("not made yet", x.below(11, 7), false);
        x.type(7);
        x.type(11);
        x.type(12);
        x.type(9);
        CHECK.due("made now", x.below(11, 7), true);
        CHECK.due("by two", x.below(13, 11), true);
        CHECK.due("not upwards", x.below(11, 13), false);
        CHECK.due("of ROOT, not thrown", x.below(13, 8), false);
        CHECK.due("through LOOSE", x.below(14, 8), true);
        CHECK.due("not of ERROR", x.below(14, 10), false);
        CHECK.due("ROOT is below none", x.below(7, 11), false);
    }

    private static void belowOfInterfaces() {
        StandInMill x = new StandInMill();
        for (int name = 0; name < 5; name++) {
            x.face(0, name, 0, true);
        }
        CHECK.due("apart", x.below(27, 24), false);
        x.extend(27, 26);
        x.extend(26, 25);
        x.extend(26, 24);
        CHECK.due("a parent", x.below(26, 25), true);
        CHECK.due("the second parent", x.below(26, 24), true);
        CHECK.due("a parent that its parent got later", x.below(27, 24), true);
        CHECK.due("the other one too", x.below(27, 25), true);
        CHECK.due("not upwards", x.below(24, 27), false);
        CHECK.due("another one", x.below(28, 24), false);
        CHECK.due("ROOT", x.below(27, 7), true);
        CHECK.due("not made", x.below(29, 7), false);
        CHECK.due("a class is below no interface", x.below(8, 24), false);
    }
}
