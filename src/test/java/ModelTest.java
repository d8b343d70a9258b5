import java.util.Random;

/**
 * All promises: runs of mixed calls, as long as an object may be used, the mill's answers held against the plain
 * model's. The seeds are fixed.
 */
public final class ModelTest {
    private static final int RUNS = 12000;
    private static final int CALLS = 512;
    /** How many calls at the end of a run look at what stands there by then. */
    private static final int LOOKS = 120;
    private static final Check CHECK = new Check();

    private final Random random;
    private final StandInMill mill = new StandInMill();
    private final PlainModel model = new PlainModel();
    private final int run;
    /** Interfaces of many methods whose results agree, so that there come to be more than forty. */
    private final boolean wide;
    /** Interfaces whose methods come together, and may throw classes high up as well as low ones. */
    private final boolean thrower;
    private final int names;
    private final int setUp;
    private int classes = 3;
    private int faces;
    private int stands;
    private int things;
    private int left = CALLS;

    private ModelTest(int run) {
        this.run = run;
        random = new Random(run);
        wide = run % 5 == 0;
        thrower = run % 5 == 1;
        names = wide ? 26 : thrower ? 2 : 1 + random.nextInt(run % 3 == 0 ? 29 : 4);
        setUp = wide || thrower ? 350 : 40 + random.nextInt(300);
    }

    public static void main(String[] args) {
        int[] faults = new int[7];
        int[] outcomes = new int[6];
        for (int run = 0; run < RUNS; run++) {
            new ModelTest(run).go(faults, outcomes);
        }
        for (int outcome = 0; outcome < outcomes.length; outcome++) {
            CHECK.due("the runs come to outcome " + outcome, outcomes[outcome] > 0, true);
        }
        for (int fault = 0; fault < faults.length; fault++) {
            CHECK.due("the runs come to fault " + fault, faults[fault] > 0, true);
        }
        CHECK.end();
    }

    private void go(int[] faults, int[] outcomes) {
        while (left > LOOKS) {
            boolean building = CALLS - left < setUp;
            int kind = random.nextInt(100);
            if (building && kind < 94) {
                build(wide && kind > 50 && kind < 85 ? 40 : kind);
            } else if (kind < 30) {
                faults[stand()]++;
            } else if (kind < 95) {
                use(kind, outcomes);
            } else {
                build(random.nextInt(100));
            }
        }
        while (left > 0) {
            look();
        }
    }

    /** Each answer that is looked at is one call of the mill. */
    private void due(String call, long got, long want) {
        left--;
        CHECK.due("run " + run + ": " + call, got, want);
    }

    private void due(String call, boolean got, boolean want) {
        due(call, got ? 1 : 0, want ? 1 : 0);
    }

    private boolean rarely() {
        return random.nextInt(20) == 0;
    }

    private int aLoader() {
        return rarely() ? random.nextInt(7) - 2 : random.nextInt(3) == 0 ? random.nextInt(4) : 0;
    }

    private int aFace() {
        return rarely() || faces == 0 ? random.nextInt(60) - 5 : 24 + random.nextInt(faces);
    }

    private int aClass() {
        return rarely() ? random.nextInt(60) - 5 : 8 + random.nextInt(classes);
    }

    private int aType() {
        int kind = random.nextInt(run % 2 == 0 ? 3 : 6);
        switch (kind) {
            case 0:
                return aClass() & 255;
            case 1:
                return aFace() & 255;
            case 2:
                return 7;
            case 3:
                return 41 + random.nextInt(6);
            default:
                return random.nextInt(7);
        }
    }

    private int someTypes() {
        int parameters = !thrower && random.nextInt(3) == 0 ? random.nextInt(4) : 0;
        int types = wide || thrower ? 7 : aType();
        for (int p = 1; p <= parameters; p++) {
            types |= aType() << 8 * p;
        }
        return types;
    }

    private long aLong() {
        switch (random.nextInt(4)) {
            case 0:
                return random.nextLong();
            case 1:
                return -1;
            default:
                return random.nextInt(34) - 1;
        }
    }

    private void build(int kind) {
        if (kind < 4) {
            int parent = aLoader();
            due("loader", mill.loader(parent), model.loader(parent));
        } else if (kind < 12) {
            int parent = rarely() ? 7 : aClass();
            int made = model.type(parent);
            due("type", mill.type(parent), made);
            classes += made == -1 ? 0 : 1;
        } else if (kind < 24) {
            int loader = aLoader();
            int name = random.nextInt(rarely() ? 28 : 6) - (rarely() ? 1 : 0);
            int pack = random.nextInt(rarely() ? 6 : 3) - (rarely() ? 1 : 0);
            boolean open = wide || thrower || random.nextInt(4) > 0;
            int made = model.face(loader, name, pack, open);
            due("face", mill.face(loader, name, pack, open), made);
            faces += made == -1 ? 0 : 1;
        } else if (kind < 36) {
            int face = aFace();
            int parent = aFace();
            due("extend", mill.extend(face, parent), model.extend(face, parent));
        } else if (kind < 60) {
            int face = aFace();
            int name = rarely() ? random.nextInt(33) - 2 : random.nextInt(names);
            int types = rarely() ? random.nextInt() : someTypes();
            due("method", mill.method(face, name, types), model.method(face, name, types));
        } else if (kind < 85) {
            int face = aFace();
            int m = random.nextInt(rarely() ? 8 : 3) - (rarely() ? 1 : 0);
            int type = thrower && random.nextBoolean() ? 8 : aClass();
            due("throwing", mill.throwing(face, m, type), model.throwing(face, m, type));
        } else {
            int type = random.nextInt(3) == 0 ? aType() : random.nextBoolean() ? aClass() : 41 + random.nextInt(6);
            long value = aLong();
            int made = model.object(type, value);
            due("object", mill.object(type, value), made);
            things += made == -1 ? 0 : 1;
        }
    }

    private int stand() {
        int loader = aLoader();
        int list = 0;
        int length = random.nextInt(5);
        for (int i = 0; i < length; i++) {
            list |= (aFace() & 255) << 8 * i;
        }
        int made = model.stand(loader, list);
        due("stand " + loader + " " + list, Check.standPacked(mill, loader, list), made);
        due("fault", mill.fault(), model.fault());
        stands = Math.max(stands, made + 1);
        return model.fault();
    }

    private void use(int kind, int[] outcomes) {
        int stand = rarely() || stands == 0 ? random.nextInt(19) - 1 : random.nextInt(stands);
        if (kind < 45) {
            int object = rarely() || things == 0 ? random.nextInt(35) - 2 : random.nextInt(things);
            boolean throwing = random.nextBoolean();
            due("handler", mill.handler(stand, object, throwing), model.handler(stand, object, throwing));
        } else if (kind < 80) {
            int k = rarely() ? random.nextInt(45) - 2 : random.nextInt(Math.max(3, model.about(stand, 2)));
            long a = aLong();
            long b = aLong();
            long c = aLong();
            int outcome = model.call(stand, k, a, b, c);
            due("call", Check.call(mill, stand, k, a, b, c), outcome);
            if (outcome >= 0) {
                outcomes[outcome]++;
            }
            lookAtCall();
        } else if (kind < 85) {
            int a = random.nextInt(60) - 5;
            int b = random.nextInt(60) - 5;
            due("below", mill.below(a, b), model.below(a, b));
        } else {
            int loader = aLoader();
            int name = random.nextInt(6);
            int pack = random.nextInt(4);
            due("find", mill.find(loader, name, pack), model.find(loader, name, pack));
        }
    }

    private void lookAtCall() {
        due("outcome", mill.outcome(), model.outcome());
        for (int look = 0; look < 3; look++) {
            int what = random.nextInt(11) - 1;
            due("seen " + what, mill.seen(what), model.seen(what));
        }
    }

    private void look() {
        int stand = rarely() || stands == 0 ? random.nextInt(19) - 1 : random.nextInt(stands);
        int kind = random.nextInt(12);
        if (kind == 0) {
            int object = random.nextInt(35) - 1;
            int what = random.nextInt(rarely() ? 4 : 2) - (rarely() ? 1 : 0);
            due("value " + object + " " + what, mill.value(object, what), model.value(object, what));
        } else if (kind == 1) {
            int a = random.nextInt(52) - 2;
            int b = random.nextInt(52) - 2;
            due("below " + a + " " + b, mill.below(a, b), model.below(a, b));
        } else if (kind < 4) {
            int what = random.nextInt(7) - 1;
            due("about " + stand + " " + what, mill.about(stand, what), model.about(stand, what));
        } else if (kind < 8) {
            int k = random.nextInt(Math.max(1, model.about(stand, 2)) + 2) - 1;
            int what = random.nextBoolean() ? random.nextInt(8) : random.nextInt(2) * 16 + 15 + random.nextInt(6);
            due("told " + stand + " " + k + " " + what, mill.told(stand, k, what), model.told(stand, k, what));
        } else {
            int from = random.nextInt(Math.max(1, model.about(stand, 3)) + 2) - 1;
            for (int i = from; i < from + 8 && left > 0; i++) {
                due("octet " + stand + " " + i, mill.octet(stand, i), model.octet(stand, i));
            }
        }
    }
}
