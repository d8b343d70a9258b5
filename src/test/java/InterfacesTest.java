/** Promises 4 to 7 and 11: face, extend, method, throwing, find. */
public final class InterfacesTest {
    private static final Check CHECK = new Check();

    public static void main(String[] args) {
        faces();
        facesHaveALimit();
        finding();
        extending();
        methodTypes();
        methodSignatures();
        methodLimits();
        throwingClasses();
        aStandInClassEndsAll();
        CHECK.end();
    }

    private static void faces() {
        StandInMill x = new StandInMill();
        x.loader(0);
        x.loader(1);
        CHECK.due("name below", x.face(0, -1, 0, true), -1);
        CHECK.due("name above", x.face(0, 26, 0, true), -1);
        CHECK.due("package below", x.face(0, 0, -1, true), -1);
        CHECK.due("package above", x.face(0, 0, 4, true), -1);
        CHECK.due("loader below", x.face(-1, 0, 0, true), -1);
        CHECK.due("loader above", x.face(3, 0, 0, true), -1);
        CHECK.due("highest name and package", x.face(1, 25, 3, false), 24);
        CHECK.due("again", x.face(1, 25, 3, true), -1);
        CHECK.due("a child finds it", x.face(2, 25, 3, true), -1);
        CHECK.due("a parent does not", x.face(0, 25, 3, true), 25);
        CHECK.due("another package", x.face(1, 25, 2, true), 26);
        CHECK.due("another name", x.face(1, 24, 3, true), 27);
    }

    private static void facesHaveALimit() {
        StandInMill x = new StandInMill();
        for (int i = 0; i < 12; i++) {
            CHECK.due("face " + i, x.face(0, i, i % 4, true), 24 + i);
        }
        CHECK.due("there are twelve", x.face(0, 12, 0, true), -1);
        CHECK.due("and no more", x.below(36, 7), false);
    }

    private static void finding() {
        StandInMill x = new StandInMill();
        x.loader(0);
        x.loader(1);
        x.loader(0);
        x.face(2, 3, 1, true);
        CHECK.due("its own", x.find(2, 3, 1), 24);
        CHECK.due("not a child's", x.find(1, 3, 1), -1);
        CHECK.due("not a neighbour's", x.find(3, 3, 1), -1);
        x.face(1, 3, 1, true);
        CHECK.due("the parent's goes first", x.find(2, 3, 1), 25);
        x.face(0, 3, 1, true);
        CHECK.due("the highest goes first", x.find(2, 3, 1), 26);
        CHECK.due("for all", x.find(3, 3, 1), 26);
        CHECK.due("another package", x.find(2, 3, 0), -1);
        CHECK.due("another name", x.find(2, 1, 1), -1);
        CHECK.due("no loader", x.find(4, 3, 1), -1);
        CHECK.due("no loader below", x.find(-1, 3, 1), -1);
        CHECK.due("no name", x.find(0, 99, 1), -1);
        CHECK.due("no package", x.find(0, 3, -1), -1);
        StandInMill deep = new StandInMill();
        deep.loader(0);
        deep.loader(1);
        deep.loader(2);
        deep.face(3, 0, 0, true);
        CHECK.due("its own, three deep", deep.find(3, 0, 0), 24);
        deep.face(0, 0, 0, true);
        CHECK.due("the first one's, three deep", deep.find(3, 0, 0), 25);
    }

    private static void extending() {
        StandInMill x = new StandInMill();
        x.loader(0);
        x.loader(0);
        for (int name = 0; name < 4; name++) {
            x.face(0, name, 0, true);
        }
        x.face(1, 4, 0, true);
        x.face(2, 5, 0, true);
        x.face(1, 6, 0, true);
        CHECK.due("itself", x.extend(25, 25), false);
        CHECK.due("a later one", x.extend(24, 25), false);
        CHECK.due("no interface", x.extend(31, 24), false);
        CHECK.due("no parent", x.extend(25, 23), false);
        CHECK.due("ROOT is none", x.extend(25, 7), false);
        CHECK.due("none below", x.extend(-1, -2), false);
        CHECK.due("a parent", x.extend(27, 24), true);
        CHECK.due("already", x.extend(27, 24), false);
        CHECK.due("a second", x.extend(27, 26), true);
        CHECK.due("a third", x.extend(27, 25), false);
        CHECK.due("of another loader", x.extend(29, 28), false);
        CHECK.due("of the loader's parent", x.extend(29, 24), true);
        CHECK.due("of the same loader", x.extend(30, 28), true);
        x.face(0, 5, 0, true);
        CHECK.due("not visible", x.extend(31, 29), false);
        x.face(2, 7, 0, true);
        CHECK.due("hidden by the loader's parent", x.extend(32, 29), false);
    }

    private static int types(int result, int... parameters) {
        return result | Check.packed(parameters) << 8;
    }

    private static void methodTypes() {
        StandInMill x = new StandInMill();
        x.face(0, 0, 0, true);
        int[] notThere = {11, 23, 25, 35, 36, 40, 47, 127, 128, 255};
        for (int type : notThere) {
            CHECK.due("result " + type, x.method(24, 0, types(type)), -1);
            CHECK.due("first parameter " + type, x.method(24, 0, types(5, type)), -1);
            CHECK.due("second parameter " + type, x.method(24, 0, types(5, 5, type)), -1);
            CHECK.due("third parameter " + type, x.method(24, 0, types(5, 5, 5, type)), -1);
        }
        CHECK.due("no value", x.method(24, 0, types(0)), 0);
        CHECK.due("PLAIN ones", x.method(24, 1, types(1, 2, 3, 4)), 1);
        CHECK.due("PLAIN ones, ROOT", x.method(24, 2, types(5, 6, 7, 8)), 2);
        CHECK.due("classes, itself, BOXES", x.method(24, 3, types(24, 24, 41, 46)), 3);
        CHECK.due("what is above a 0 does not count", x.method(24, 4, types(5, 6, 0, 99)), 4);
        CHECK.due("nor makes it another signature", x.method(24, 4, types(5, 6)), -1);
        StandInMill y = new StandInMill();
        y.face(0, 0, 0, true);
        y.type(8);
        y.face(0, 1, 0, true);
        CHECK.due("a made class and interface", y.method(24, 0, types(11, 25)), 0);
    }

    private static void methodSignatures() {
        StandInMill x = new StandInMill();
        x.face(0, 0, 0, true);
        x.face(0, 1, 0, true);
        x.extend(25, 24);
        CHECK.due("one", x.method(24, 1, types(5, 6, 7)), 0);
        CHECK.due("another result is the same signature", x.method(24, 1, types(0, 6, 7)), -1);
        CHECK.due("another order is not", x.method(24, 1, types(5, 7, 6)), 1);
        CHECK.due("fewer are not", x.method(24, 1, types(5, 6)), 2);
        CHECK.due("another name is not", x.method(24, 2, types(5, 6, 7)), 3);
        CHECK.due("a child's own", x.method(25, 1, types(5, 6, 7)), 0);
    }

    private static void methodLimits() {
        StandInMill x = new StandInMill();
        x.face(0, 0, 0, true);
        CHECK.due("no interface", x.method(25, 0, 5), -1);
        CHECK.due("ROOT is none", x.method(7, 0, 5), -1);
        CHECK.due("none below", x.method(-1, 0, 5), -1);
        CHECK.due("name below", x.method(24, -1, 5), -1);
        CHECK.due("name above", x.method(24, 29, 5), -1);
        CHECK.due("highest name", x.method(24, 28, 5), 0);
        for (int m = 1; m < 6; m++) {
            CHECK.due("method " + m, x.method(24, m, 5), m);
        }
        CHECK.due("it has six", x.method(24, 6, 5), -1);
    }

    private static void throwingClasses() {
        StandInMill x = new StandInMill();
        x.face(0, 0, 0, true);
        x.method(24, 0, 0);
        x.type(7);
        CHECK.due("no interface", x.throwing(25, 0, 8), false);
        CHECK.due("no method", x.throwing(24, 1, 8), false);
        CHECK.due("no method below", x.throwing(24, -1, 8), false);
        int[] noClass = {-1, 0, 5, 7, 12, 23, 24, 41, 99};
        for (int type : noClass) {
            CHECK.due("no class " + type, x.throwing(24, 0, type), false);
        }
        CHECK.due("LOOSE", x.throwing(24, 0, 9), true);
        CHECK.due("already", x.throwing(24, 0, 9), false);
        CHECK.due("not below THROWN", x.throwing(24, 0, 11), true);
        CHECK.due("THROWN", x.throwing(24, 0, 8), true);
        CHECK.due("three", x.throwing(24, 0, 10), false);
        Check.stand(x, 0, 24);
        CHECK.due("it is told", x.told(0, 3, 16), 9);
        CHECK.due("in order", x.told(0, 3, 17), 11);
        CHECK.due("all three", x.told(0, 3, 18), 8);
        CHECK.due("no fourth", x.told(0, 3, 19), 0);
    }

    private static void aStandInClassEndsAll() {
        StandInMill x = new StandInMill();
        x.face(0, 0, 0, true);
        x.face(0, 1, 0, true);
        x.method(24, 0, 0);
        x.method(24, 26, 6);
        CHECK.due("a fault makes none", Check.stand(x, 0, 24), Check.ILLEGAL);
        CHECK.due("so methods go on", x.method(25, 0, 5), 0);
        CHECK.due("throwing goes on", x.throwing(25, 0, 8), true);
        Check.stand(x, 0, 25);
        CHECK.due("extend", x.extend(25, 24), false);
        CHECK.due("method", x.method(25, 1, 5), -1);
        CHECK.due("throwing", x.throwing(25, 0, 9), false);
        CHECK.due("a face goes on", x.face(0, 2, 0, true), 26);
        CHECK.due("but stays bare", x.extend(26, 24), false);
        CHECK.due("a type goes on", x.type(7), 11);
        CHECK.due("a loader goes on", x.loader(0), 1);
    }
}
