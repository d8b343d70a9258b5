/**
 * The edges of LOADERS, FINDS, VISIBLE, names and packages in the terms, and of promises 1, 2, 4 and 11: a new object,
 * loader, face, find. A test for each sentence.
 */
public final class LoadersEdgesTest {
    private static final Check CHECK = new Check();

    public static void main(String[] args) {
        nothingIsThereAtFirst();
        objectsShareNothing();
        loaderZeroIsThereAtFirst();
        loaderWithoutSuchAParent();
        loaderWhenThereAreFour();
        refusedLoadersTakeNoNumber();
        faceWithoutSuchALoader();
        faceNames();
        facePackages();
        faceFoundByItsLoaderAlready();
        faceFoundByAParentAlready();
        faceFoundByOthersAlone();
        faceWhenThereAreTwelve();
        refusedFacesLeaveNothing();
        facesGoOnBehindAStandInClass();
        findWhatTheParentFinds();
        findWhatItMadeItself();
        findNothing();
        findWithoutSuchALoader();
        visibleIfFoundForItsOwnNameAndPackage();
        visibleNoMore();
        CHECK.end();
    }

    /** "makes an object in the state that the terms give" */
    private static void nothingIsThereAtFirst() {
        StandInMill x = new StandInMill();
        CHECK.due("fault", x.fault(), 0);
        CHECK.due("outcome", x.outcome(), -1);
        for (int what = -1; what <= 9; what++) {
            CHECK.due("seen " + what, x.seen(what), -1);
            CHECK.due("value " + what, x.value(0, what), -1);
            CHECK.due("about " + what, x.about(0, what), -1);
            CHECK.due("told " + what, x.told(0, 0, what), -1);
        }
        CHECK.due("octet", x.octet(0, 0), -1);
        CHECK.due("handler", x.handler(0, -1, false), false);
        CHECK.due("call", Check.call(x, 0, 0, 0, 0, 0), Check.OUT_OF_BOUNDS);
        CHECK.due("stand", Check.stand(x, 0, 24), Check.OUT_OF_BOUNDS);
        CHECK.due("extend", x.extend(25, 24), false);
        CHECK.due("method", x.method(24, 0, 5), -1);
        CHECK.due("throwing", x.throwing(24, 0, 8), false);
        for (int name = 0; name <= 25; name++) {
            for (int pack = 0; pack <= 3; pack++) {
                CHECK.due("find " + name + " " + pack, x.find(0, name, pack), -1);
            }
        }
        CHECK.due("the first loader made", x.loader(0), 1);
        CHECK.due("the first class made", x.type(7), 11);
        CHECK.due("the first interface made", x.face(0, 0, 0, true), 24);
        CHECK.due("the first object made", x.object(8, 0), 0);
        CHECK.due("the first stand-in class made", Check.stand(x, 0, 24), 0);
    }

    private static void objectsShareNothing() {
        StandInMill x = new StandInMill();
        x.loader(0);
        x.type(8);
        x.face(0, 0, 0, true);
        x.object(45, 7);
        Check.stand(x, 0, 24);
        x.handler(0, 0, false);
        Check.call(x, 0, 0, 0, 0, 0);
        Check.stand(x, 0, 24, 24);
        StandInMill y = new StandInMill();
        CHECK.due("loader", y.loader(1), -1);
        CHECK.due("class", y.below(11, 8), false);
        CHECK.due("interface", y.find(0, 0, 0), -1);
        CHECK.due("object", y.value(0, 0), -1);
        CHECK.due("stand-in class", y.about(0, 0), -1);
        CHECK.due("fault", y.fault(), 0);
        CHECK.due("outcome", y.outcome(), -1);
        CHECK.due("seen", y.seen(0), -1);
        CHECK.due("the first one's outcome", x.outcome(), 7);
        CHECK.due("the first one's fault", x.fault(), 2);
    }

    /** "LOADERS are 0 .. 3; 0 is there at first". */
    private static void loaderZeroIsThereAtFirst() {
        StandInMill x = new StandInMill();
        CHECK.due("1 makes nothing", x.face(1, 0, 0, true), -1);
        CHECK.due("0 makes", x.face(0, 0, 0, true), 24);
        CHECK.due("1 stands for nothing", Check.stand(x, 1, 24), Check.OUT_OF_BOUNDS);
        CHECK.due("0 stands", Check.stand(x, 0, 24), 0);
    }

    /** loader: "NONE if there is no such parent". */
    private static void loaderWithoutSuchAParent() {
        StandInMill x = new StandInMill();
        for (int far : Check.farFrom(0)) {
            CHECK.due("parent " + far, x.loader(far), -1);
        }
        for (int made = 1; made <= 3; made++) {
            for (int beyond = made; beyond <= 8; beyond++) {
                CHECK.due("parent " + beyond + " of " + made, x.loader(beyond), -1);
            }
            CHECK.due("the highest parent", x.loader(made - 1), made);
        }
    }

    /** loader: "or there are four". */
    private static void loaderWhenThereAreFour() {
        StandInMill x = new StandInMill();
        x.loader(0);
        x.loader(0);
        CHECK.due("the fourth", x.loader(0), 3);
        for (int parent = -1; parent <= 5; parent++) {
            CHECK.due("a fifth of " + parent, x.loader(parent), -1);
        }
        CHECK.due("the last makes", x.face(3, 0, 0, true), 24);
        CHECK.due("no fifth makes", x.face(4, 1, 0, true), -1);
        CHECK.due("no fifth finds", x.find(4, 0, 0), -1);
        CHECK.due("no fifth stands", Check.stand(x, 4, 24), Check.OUT_OF_BOUNDS);
        CHECK.due("the last stands", Check.stand(x, 3, 24), 0);
    }

    private static void refusedLoadersTakeNoNumber() {
        StandInMill x = new StandInMill();
        CHECK.due("refused", x.loader(1), -1);
        CHECK.due("refused", x.loader(-1), -1);
        CHECK.due("made", x.loader(0), 1);
        CHECK.due("refused", x.loader(2), -1);
        CHECK.due("made", x.loader(1), 2);
        x.face(1, 0, 0, true);
        CHECK.due("its parent is 1", x.find(2, 0, 0), 24);
        CHECK.due("0 is above", x.find(0, 0, 0), -1);
    }

    /** face: "NONE if there is no such loader". */
    private static void faceWithoutSuchALoader() {
        StandInMill x = new StandInMill();
        for (int far : Check.farFrom(0)) {
            CHECK.due("loader " + far, x.face(far, 0, 0, true), -1);
        }
        for (int made = 1; made <= 3; made++) {
            CHECK.due("one beyond " + made, x.face(made, made, 0, true), -1);
            x.loader(0);
            CHECK.due("the highest " + made, x.face(made, made, 0, true), 23 + made);
        }
        CHECK.due("4 of four", x.face(4, 4, 0, true), -1);
    }

    /** "a name (0 .. 25)"; face: "the name or package is not as told". */
    private static void faceNames() {
        StandInMill x = new StandInMill();
        CHECK.due("-1", x.face(0, -1, 0, true), -1);
        CHECK.due("26", x.face(0, 26, 0, true), -1);
        CHECK.due("28, a method's", x.face(0, 28, 0, true), -1);
        for (int far : Check.farFrom(25)) {
            CHECK.due("name " + far, x.face(0, far, 0, true), -1);
        }
        CHECK.due("0", x.face(0, 0, 0, true), 24);
        CHECK.due("1", x.face(0, 1, 0, true), 25);
        CHECK.due("24", x.face(0, 24, 0, true), 26);
        CHECK.due("25", x.face(0, 25, 0, true), 27);
    }

    /** "a package (0 .. 3)"; face: "the name or package is not as told". */
    private static void facePackages() {
        StandInMill x = new StandInMill();
        CHECK.due("-1", x.face(0, 0, -1, true), -1);
        CHECK.due("4", x.face(0, 0, 4, true), -1);
        CHECK.due("5", x.face(0, 0, 5, false), -1);
        for (int far : Check.farFrom(3)) {
            CHECK.due("package " + far, x.face(0, 0, far, true), -1);
        }
        for (int pack = 0; pack <= 3; pack++) {
            CHECK.due("package " + pack, x.face(0, 0, pack, pack > 1), 24 + pack);
            CHECK.due("found " + pack, x.find(0, 0, pack), 24 + pack);
        }
    }

    /** face: "the loader finds one of this name and package already". */
    private static void faceFoundByItsLoaderAlready() {
        StandInMill x = new StandInMill();
        CHECK.due("made", x.face(0, 25, 3, true), 24);
        CHECK.due("again", x.face(0, 25, 3, true), -1);
        CHECK.due("again, not OPEN", x.face(0, 25, 3, false), -1);
        CHECK.due("another name", x.face(0, 24, 3, true), 25);
        CHECK.due("another package", x.face(0, 25, 2, true), 26);
    }

    private static void faceFoundByAParentAlready() {
        StandInMill x = new StandInMill();
        x.loader(0);
        x.loader(1);
        x.loader(2);
        x.face(0, 0, 0, true);
        x.face(1, 1, 0, true);
        x.face(2, 2, 0, true);
        for (int name = 0; name <= 2; name++) {
            CHECK.due("above " + name, x.face(3, name, 0, true), -1);
        }
        CHECK.due("its parent's", x.face(1, 0, 0, true), -1);
        CHECK.due("its parent's parent's", x.face(2, 0, 0, false), -1);
        CHECK.due("a new one", x.face(3, 3, 0, true), 27);
    }

    private static void faceFoundByOthersAlone() {
        StandInMill x = new StandInMill();
        x.loader(0);
        x.loader(0);
        x.loader(1);
        CHECK.due("the lowest one's", x.face(3, 0, 0, true), 24);
        CHECK.due("its parent's, of the same name", x.face(1, 0, 0, true), 25);
        CHECK.due("its neighbour's", x.face(2, 0, 0, true), 26);
        CHECK.due("the highest one's", x.face(0, 0, 0, true), 27);
        CHECK.due("now all find one", x.face(3, 0, 0, true), -1);
        CHECK.due("now all find one", x.face(2, 0, 0, true), -1);
    }

    /** face: "or there are twelve". */
    private static void faceWhenThereAreTwelve() {
        StandInMill x = new StandInMill();
        x.loader(0);
        for (int f = 0; f < 11; f++) {
            x.face(f % 2, f, f % 4, true);
        }
        CHECK.due("the twelfth", x.face(0, 11, 0, true), 35);
        CHECK.due("the thirteenth", x.face(0, 12, 0, true), -1);
        CHECK.due("of another loader", x.face(1, 13, 0, true), -1);
        CHECK.due("not OPEN", x.face(0, 25, 3, false), -1);
        CHECK.due("it is not found", x.find(0, 12, 0), -1);
        CHECK.due("36 is not there", x.below(36, 7), false);
        CHECK.due("the twelfth is found", x.find(0, 11, 0), 35);
        CHECK.due("and by a child", x.find(1, 11, 0), 35);
    }

    private static void refusedFacesLeaveNothing() {
        StandInMill x = new StandInMill();
        x.face(1, 0, 0, true);
        x.face(0, 26, 0, true);
        x.face(0, 0, 4, true);
        CHECK.due("not found", x.find(0, 26, 0), -1);
        CHECK.due("not found", x.find(0, 0, 4), -1);
        CHECK.due("not there", x.below(24, 7), false);
        CHECK.due("the first one made", x.face(0, 0, 0, false), 24);
        CHECK.due("refused", x.face(0, 0, 0, true), -1);
        CHECK.due("found", x.find(0, 0, 0), 24);
        Check.stand(x, 0, 24);
        CHECK.due("it is not OPEN still", x.about(0, 0), 0);
    }

    private static void facesGoOnBehindAStandInClass() {
        StandInMill x = new StandInMill();
        x.face(0, 0, 0, true);
        Check.stand(x, 0, 24);
        CHECK.due("made", x.face(0, 1, 0, true), 25);
        CHECK.due("stands", Check.stand(x, 0, 25, 24), 1);
        CHECK.due("a loader", x.loader(0), 1);
        CHECK.due("makes", x.face(1, 2, 0, true), 26);
        CHECK.due("stands", Check.stand(x, 1, 26), 2);
    }

    /** "A loader FINDS for a name and package: what its parent FINDS". */
    private static void findWhatTheParentFinds() {
        StandInMill x = new StandInMill();
        x.loader(0);
        x.loader(1);
        x.loader(2);
        int[] makers = {3, 2, 1, 0};
        for (int i = 0; i < makers.length; i++) {
            int type = 24 + i;
            CHECK.due("made by " + makers[i], x.face(makers[i], 9, 1, true), type);
            for (int loader = 0; loader <= 3; loader++) {
                CHECK.due("found by " + loader, x.find(loader, 9, 1), loader >= makers[i] ? type : -1);
            }
        }
    }

    /** "or, if that finds nothing, the one that it made itself". */
    private static void findWhatItMadeItself() {
        StandInMill x = new StandInMill();
        x.loader(0);
        x.loader(0);
        x.face(1, 0, 0, true);
        x.face(2, 0, 0, true);
        x.face(0, 0, 1, true);
        x.face(0, 1, 0, true);
        CHECK.due("its own", x.find(1, 0, 0), 24);
        CHECK.due("its own", x.find(2, 0, 0), 25);
        CHECK.due("its parent has none", x.find(0, 0, 0), -1);
        CHECK.due("its parent's of another package", x.find(1, 0, 1), 26);
        CHECK.due("its parent's of another name", x.find(2, 1, 0), 27);
    }

    /** find: "NONE for nothing". */
    private static void findNothing() {
        StandInMill x = new StandInMill();
        x.face(0, 25, 3, true);
        x.face(0, 0, 0, true);
        CHECK.due("the highest", x.find(0, 25, 3), 24);
        CHECK.due("the lowest", x.find(0, 0, 0), 25);
        CHECK.due("a name less", x.find(0, 24, 3), -1);
        CHECK.due("a name more", x.find(0, 26, 3), -1);
        CHECK.due("a package less", x.find(0, 25, 2), -1);
        CHECK.due("a package more", x.find(0, 25, 4), -1);
        CHECK.due("turned", x.find(0, 3, 25), -1);
        for (int far : Check.farFrom(25)) {
            CHECK.due("name " + far, x.find(0, far, 3), -1);
        }
        for (int far : Check.farFrom(3)) {
            CHECK.due("package " + far, x.find(0, 25, far), -1);
        }
        for (int far : Check.farFrom(0)) {
            CHECK.due("name " + far, x.find(0, far, 0), -1);
            CHECK.due("package " + far, x.find(0, 0, far), -1);
        }
    }

    /** find: "or if there is no such loader". */
    private static void findWithoutSuchALoader() {
        StandInMill x = new StandInMill();
        x.face(0, 0, 0, true);
        CHECK.due("0", x.find(0, 0, 0), 24);
        CHECK.due("1", x.find(1, 0, 0), -1);
        for (int far : Check.farFrom(0)) {
            CHECK.due("loader " + far, x.find(far, 0, 0), -1);
        }
        x.loader(0);
        CHECK.due("1 now", x.find(1, 0, 0), 24);
        CHECK.due("2", x.find(2, 0, 0), -1);
    }

    /** "An interface is VISIBLE for a loader that FINDS it for its own name and package." */
    private static void visibleIfFoundForItsOwnNameAndPackage() {
        StandInMill x = new StandInMill();
        x.loader(0);
        x.loader(0);
        x.loader(1);
        x.face(1, 0, 0, true);
        x.face(2, 0, 0, true);
        boolean[][] visible = {{false, true, false, true}, {false, false, true, false}};
        int made = 0;
        for (int f = 0; f < 2; f++) {
            for (int loader = 0; loader <= 3; loader++) {
                int want = visible[f][loader] ? made : Check.ILLEGAL;
                made += visible[f][loader] ? 1 : 0;
                CHECK.due((24 + f) + " for " + loader, Check.stand(x, loader, 24 + f), want);
                CHECK.due("fault", x.fault(), visible[f][loader] ? 0 : 1);
            }
        }
    }

    private static void visibleNoMore() {
        StandInMill x = new StandInMill();
        x.loader(0);
        x.face(1, 0, 0, true);
        x.face(1, 1, 0, true);
        CHECK.due("visible for its loader", x.extend(25, 24), true);
        x.face(0, 0, 0, true);
        x.face(1, 2, 0, true);
        CHECK.due("hidden for its own loader", x.extend(27, 24), false);
        CHECK.due("what hides it is visible", x.extend(27, 26), true);
        CHECK.due("no stand for it", Check.stand(x, 1, 24), Check.ILLEGAL);
        CHECK.due("fault", x.fault(), 1);
        CHECK.due("a hidden parent is no fault", Check.stand(x, 1, 25), 0);
    }
}
