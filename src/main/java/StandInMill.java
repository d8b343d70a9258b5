import java.util.Arrays;

/**
 * Stand-ins for any list of interfaces: for each list a class is made as a unit of bytes, once for a loader, and run;
 * every call of its methods goes to one handler, and what that answers or throws is fitted to what the method tells.
 */
public final class StandInMill {
    public static final int NONE = -1;

    private static final int NO_VALUE = 0;
    private static final int TRUTH = 1;
    private static final int BYTE = 2;
    private static final int CHARACTER = 3;
    private static final int SHORT = 4;
    private static final int INT = 5;
    private static final int LONG = 6;
    private static final int ROOT = 7;
    private static final int THROWN = 8;
    private static final int LOOSE = 9;
    private static final int ERROR = 10;
    private static final int LAST_CLASS = 23;
    private static final int FIRST_FACE = 24;
    private static final int FIRST_BOX = 41;
    private static final int LAST_BOX = 46;
    private static final int FROM_PLAIN_TO_BOX = 40;

    private static final int MOST_LOADERS = 4;
    private static final int MOST_CLASSES = 16;
    private static final int MOST_FACES = 12;
    private static final int MOST_PARENTS = 2;
    private static final int MOST_OWN_METHODS = 6;
    private static final int MOST_PARAMETERS = 3;
    private static final int ROOT_METHODS = 3;
    private static final int MOST_OWN_THROWN = 3;
    private static final int MOST_OBJECTS = 32;
    private static final int MOST_LISTED = 4;
    private static final int MOST_STANDS = 16;
    private static final int MOST_STAND_METHODS = 40;
    private static final int FACE_NAMES = 26;
    private static final int METHOD_NAMES = 29;
    private static final int PACKAGES = 4;
    private static final int OPEN_PACKAGE = 4;

    private static final int FAULT_NOT_VISIBLE = 1;
    private static final int FAULT_TWICE = 2;
    private static final int FAULT_PACKAGES = 3;
    private static final int FAULT_RESULTS = 4;
    private static final int FAULT_METHODS = 5;
    private static final int FAULT_CLASSES = 6;

    private static final int OUTCOME_NOTHING = 0;
    private static final int OUTCOME_ANSWER = 1;
    private static final int OUTCOME_NOT_UNBOXED = 2;
    private static final int OUTCOME_WRONG = 3;
    private static final int OUTCOME_THROWN = 4;
    private static final int OUTCOME_WRAPPED = 5;

    private static final int SEEN_TYPES = 3;
    private static final int SEEN_VALUES = 6;
    private static final int SEEN_ROW = 9;

    private final Types types = new Types();
    private final int[] loaderParents = new int[MOST_LOADERS];
    private int loaderCount;
    private final Face[] faces = new Face[MOST_FACES];
    private int faceCount;
    private final int[] objectTypes = new int[MOST_OBJECTS];
    private final long[] objectValues = new long[MOST_OBJECTS];
    private int objectCount;
    private final OwnMethod[] rootMethods = new OwnMethod[ROOT_METHODS];
    private final StandIn[] stands = new StandIn[MOST_STANDS];
    private int standCount;
    private final Draft draft = new Draft(types);
    private final UnitWriter writer = new UnitWriter();
    /** Whether the interfaces' METHODS are those of now: gathering is dear, and many stands may fail in a row. */
    private boolean gathered;
    private int latestFault;
    private long latestOutcome = NONE;
    private final long[] given = new long[MOST_PARAMETERS];
    private final long[] seenRow = new long[SEEN_ROW];

    public StandInMill() {
        loaderParents[0] = NONE;
        loaderCount = 1;
        rootMethods[0] = new OwnMethod(ROOT, 0, 26, 0, INT);
        rootMethods[1] = new OwnMethod(ROOT, 1, 27, ROOT, TRUTH);
        rootMethods[2] = new OwnMethod(ROOT, 2, 28, 0, ROOT);
        Arrays.fill(seenRow, NONE);
    }

    public int loader(int parent) {
        if (!isLoader(parent) || loaderCount == MOST_LOADERS) {
            return NONE;
        }
        loaderParents[loaderCount] = parent;
        loaderCount++;
        return loaderCount - 1;
    }

    public int type(int parent) {
        return types.addClass(parent);
    }

    public int face(int loader, int name, int pack, boolean open) {
        if (!isLoader(loader) || !isWithin(name, FACE_NAMES) || !isWithin(pack, PACKAGES)) {
            return NONE;
        }
        if (faceFoundBy(loader, name, pack) != NONE || faceCount == MOST_FACES) {
            return NONE;
        }
        int type = FIRST_FACE + faceCount;
        faces[faceCount] = new Face(loader, name, pack, open);
        faceCount++;
        types.addFace(type);
        return type;
    }

    public boolean extend(int face, int parent) {
        if (standCount > 0 || !isFace(face) || !isFace(parent) || parent >= face) {
            return false;
        }
        Face child = faces[face - FIRST_FACE];
        if (child.hasParent(parent) || child.parentCount == MOST_PARENTS || !isVisible(parent, child.loader)) {
            return false;
        }
        child.addParent(parent);
        types.putBelow(face, parent);
        gathered = false;
        return true;
    }

    public int method(int face, int name, int types) {
        int result = types & 255;
        int parameters = cutAtZero(types >>> 8);
        if (standCount > 0 || !isFace(face) || !isWithin(name, METHOD_NAMES)) {
            return NONE;
        }
        if (!isResult(result) || !areParameters(parameters)) {
            return NONE;
        }
        Face owner = faces[face - FIRST_FACE];
        if (owner.ownCount == MOST_OWN_METHODS || owner.hasOwn(name, parameters)) {
            return NONE;
        }
        owner.addOwn(new OwnMethod(face, owner.ownCount, name, parameters, result));
        gathered = false;
        return owner.ownCount - 1;
    }

    public boolean throwing(int face, int m, int type) {
        if (standCount > 0 || !isFace(face) || !types.isClass(type)) {
            return false;
        }
        Face owner = faces[face - FIRST_FACE];
        if (!isWithin(m, owner.ownCount)) {
            return false;
        }
        ClassRow thrown = owner.own[m].thrown;
        if (thrown.has(type) || thrown.size == MOST_OWN_THROWN) {
            return false;
        }
        thrown.add(type);
        return true;
    }

    public int object(int type, long value) {
        if (!types.isClass(type) && !isBox(type) || objectCount == MOST_OBJECTS) {
            return NONE;
        }
        objectTypes[objectCount] = type;
        objectValues[objectCount] = isBox(type) ? fitted(type - FROM_PLAIN_TO_BOX, value) : value;
        objectCount++;
        return objectCount - 1;
    }

    public long value(int object, int what) {
        if (!isWithin(object, objectCount)) {
            return NONE;
        }
        switch (what) {
            case 0:
                return objectTypes[object];
            case 1:
                return objectValues[object];
            default:
                return NONE;
        }
    }

    public boolean below(int a, int b) {
        return types.isBelow(a, b);
    }

    public int find(int loader, int name, int pack) {
        return isLoader(loader) ? faceFoundBy(loader, name, pack) : NONE;
    }

    public int stand(int loader, int list) throws IndexOutOfBoundsException, IllegalArgumentException {
        latestFault = 0;
        int listed = cutAtZero(list);
        if (!isLoader(loader) || listed == 0 || !areFaces(listed)) {
            throw new IndexOutOfBoundsException("no such loader, or no list of interfaces");
        }
        int known = standMadeFor(loader, listed);
        if (known != NONE) {
            return known;
        }
        latestFault = faultOfList(loader, listed);
        if (latestFault == 0) {
            fillDraft(listed);
            latestFault = faultOfDraft();
        }
        if (latestFault != 0) {
            throw new IllegalArgumentException("a fault");
        }
        StandIn made = madeOfDraft(loader, listed);
        made.unit = writer.write(made);
        stands[standCount] = made;
        standCount++;
        return standCount - 1;
    }

    public int fault() {
        return latestFault;
    }

    public int about(int stand, int what) {
        if (!isWithin(stand, standCount)) {
            return NONE;
        }
        StandIn made = stands[stand];
        switch (what) {
            case 0:
                return made.pack;
            case 1:
                return made.number;
            case 2:
                return made.methods.length;
            case 3:
                return made.unit.length;
            case 4:
                return made.loader;
            default:
                return NONE;
        }
    }

    public int told(int stand, int k, int what) {
        if (!hasMethod(stand, k)) {
            return NONE;
        }
        StandMethod standMethod = stands[stand].methods[k];
        OwnMethod source = standMethod.source;
        if (what >= 32 && what <= 47) {
            return standMethod.caught.at(what - 32);
        }
        if (what >= 16 && what <= 31) {
            return standMethod.thrown.at(what - 16);
        }
        switch (what) {
            case 0:
                return source.name;
            case 1:
                return source.result;
            case 2:
            case 3:
            case 4:
                return byteOf(source.parameters, what - 2);
            case 5:
                return source.owner;
            case 6:
                return source.number;
            default:
                return NONE;
        }
    }

    public int octet(int stand, int i) {
        if (!isWithin(stand, standCount) || !isWithin(i, stands[stand].unit.length)) {
            return NONE;
        }
        return stands[stand].unit[i] & 255;
    }

    public boolean handler(int stand, int object, boolean throwing) {
        if (!isWithin(stand, standCount) || object != NONE && !isWithin(object, objectCount)) {
            return false;
        }
        if (throwing && (object == NONE || !types.isBelow(objectTypes[object], THROWN))) {
            return false;
        }
        stands[stand].handled = object;
        stands[stand].throwing = throwing;
        return true;
    }

    public int call(int stand, int k, long a, long b, long c)
            throws IndexOutOfBoundsException, IllegalArgumentException {
        if (!hasMethod(stand, k)) {
            throw new IndexOutOfBoundsException("no such class or method");
        }
        StandIn made = stands[stand];
        StandMethod called = made.methods[k];
        given[0] = a;
        given[1] = b;
        given[2] = c;
        if (!takesGiven(called.source)) {
            throw new IllegalArgumentException("a parameter is no such object");
        }
        showHandler(called.source);
        return made.throwing ? fitThrown(called, made.handled) : fitAnswer(called.source.result, made.handled);
    }

    public long outcome() {
        return latestOutcome;
    }

    public long seen(int what) {
        return isWithin(what, SEEN_ROW) ? seenRow[what] : NONE;
    }

    private static boolean isWithin(int number, int count) {
        return number >= 0 && number < count;
    }

    private static boolean isPlain(int type) {
        return type >= TRUTH && type <= LONG;
    }

    private static boolean isBox(int type) {
        return type >= FIRST_BOX && type <= LAST_BOX;
    }

    private static int byteOf(int packed, int k) {
        return packed >>> 8 * k & 255;
    }

    /** The bytes below the first one that is 0, so that what does not count can't tell two rows apart. */
    private static int cutAtZero(int packed) {
        int kept = 0;
        for (int k = 0; k < MOST_LISTED && byteOf(packed, k) != 0; k++) {
            kept |= byteOf(packed, k) << 8 * k;
        }
        return kept;
    }

    /** How many bytes stand below the first one that is 0. */
    private static int lengthOf(int packed) {
        int length = 0;
        while (length < MOST_LISTED && byteOf(packed, length) != 0) {
            length++;
        }
        return length;
    }

    private static long fitted(int plain, long value) {
        switch (plain) {
            case TRUTH:
                return value != 0 ? 1 : 0;
            case BYTE:
                return (byte) value;
            case CHARACTER:
                return (char) value;
            case SHORT:
                return (short) value;
            case INT:
                return (int) value;
            default:
                return value;
        }
    }

    private boolean isLoader(int loader) {
        return isWithin(loader, loaderCount);
    }

    private boolean isFace(int type) {
        return type >= FIRST_FACE && type < FIRST_FACE + faceCount;
    }

    private boolean isResult(int type) {
        return type == NO_VALUE || types.isThere(type);
    }

    private boolean areParameters(int parameters) {
        for (int k = 0; k < lengthOf(parameters); k++) {
            if (!types.isThere(byteOf(parameters, k))) {
                return false;
            }
        }
        return true;
    }

    private boolean areFaces(int listed) {
        for (int k = 0; k < lengthOf(listed); k++) {
            if (!isFace(byteOf(listed, k))) {
                return false;
            }
        }
        return true;
    }

    private boolean hasMethod(int stand, int k) {
        return isWithin(stand, standCount) && isWithin(k, stands[stand].methods.length);
    }

    /** What a loader FINDS: a parent goes before its child, so the one that is made highest in the chain counts. */
    private int faceFoundBy(int loader, int name, int pack) {
        int found = NONE;
        int at = loader;
        for (int step = 0; step < MOST_LOADERS && at != NONE; step++) {
            int made = faceMadeBy(at, name, pack);
            found = made != NONE ? made : found;
            at = loaderParents[at];
        }
        return found;
    }

    private int faceMadeBy(int loader, int name, int pack) {
        for (int f = 0; f < faceCount; f++) {
            if (faces[f].loader == loader && faces[f].name == name && faces[f].pack == pack) {
                return FIRST_FACE + f;
            }
        }
        return NONE;
    }

    private boolean isVisible(int face, int loader) {
        Face sought = faces[face - FIRST_FACE];
        return faceFoundBy(loader, sought.name, sought.pack) == face;
    }

    private int standMadeFor(int loader, int listed) {
        for (int s = 0; s < standCount; s++) {
            if (stands[s].loader == loader && stands[s].listed == listed) {
                return s;
            }
        }
        return NONE;
    }

    private int faultOfList(int loader, int listed) {
        if (!areVisible(listed, loader)) {
            return FAULT_NOT_VISIBLE;
        }
        if (hasTwice(listed)) {
            return FAULT_TWICE;
        }
        return isInTwoPackages(listed) ? FAULT_PACKAGES : 0;
    }

    private int faultOfDraft() {
        if (!draft.resultsAgree()) {
            return FAULT_RESULTS;
        }
        if (draft.size > MOST_STAND_METHODS) {
            return FAULT_METHODS;
        }
        return standCount == MOST_STANDS ? FAULT_CLASSES : 0;
    }

    private boolean areVisible(int listed, int loader) {
        for (int k = 0; k < lengthOf(listed); k++) {
            if (!isVisible(byteOf(listed, k), loader)) {
                return false;
            }
        }
        return true;
    }

    private static boolean hasTwice(int listed) {
        for (int k = 0; k < lengthOf(listed); k++) {
            for (int earlier = 0; earlier < k; earlier++) {
                if (byteOf(listed, earlier) == byteOf(listed, k)) {
                    return true;
                }
            }
        }
        return false;
    }

    private boolean isInTwoPackages(int listed) {
        int pack = packageOf(listed);
        for (int k = 0; k < lengthOf(listed); k++) {
            Face face = faces[byteOf(listed, k) - FIRST_FACE];
            if (!face.open && face.pack != pack) {
                return true;
            }
        }
        return false;
    }

    /** The package of the first interface that is not OPEN. */
    private int packageOf(int listed) {
        for (int k = 0; k < lengthOf(listed); k++) {
            Face face = faces[byteOf(listed, k) - FIRST_FACE];
            if (!face.open) {
                return face.pack;
            }
        }
        return OPEN_PACKAGE;
    }

    private void fillDraft(int listed) {
        if (!gathered) {
            gatherMethods();
        }
        draft.clear();
        for (int m = 0; m < rootMethods.length; m++) {
            draft.take(rootMethods[m]);
        }
        for (int k = 0; k < lengthOf(listed); k++) {
            Face face = faces[byteOf(listed, k) - FIRST_FACE];
            for (int m = 0; m < face.allCount; m++) {
                draft.take(face.all[m]);
            }
        }
    }

    /** Goes upwards through the interfaces: parents are earlier, so theirs are gathered when a child needs them. */
    private void gatherMethods() {
        for (int f = 0; f < faceCount; f++) {
            Face face = faces[f];
            face.gatherOwn();
            for (int p = 0; p < face.parentCount; p++) {
                face.gatherFrom(faces[face.parents[p] - FIRST_FACE]);
            }
        }
        gathered = true;
    }

    private StandIn madeOfDraft(int loader, int listed) {
        int pack = packageOf(listed);
        StandIn made = new StandIn(loader, listed, pack, standsOfPackage(pack), draft.size);
        draft.handOver(made.methods);
        return made;
    }

    private int standsOfPackage(int pack) {
        int count = 0;
        for (int s = 0; s < standCount; s++) {
            count += stands[s].pack == pack ? 1 : 0;
        }
        return count;
    }

    private boolean takesGiven(OwnMethod called) {
        for (int k = 0; k < called.parameterCount(); k++) {
            int type = byteOf(called.parameters, k);
            if (!isPlain(type) && given[k] != NONE && !isObjectBelow(given[k], type)) {
                return false;
            }
        }
        return true;
    }

    /** Looks at the whole long: one whose lowest bits alone are an object's number is no object. */
    private boolean isObjectBelow(long number, int type) {
        return number >= 0 && number < objectCount && types.isBelow(objectTypes[(int) number], type);
    }

    private void showHandler(OwnMethod called) {
        Arrays.fill(seenRow, NONE);
        seenRow[0] = called.owner;
        seenRow[1] = called.number;
        seenRow[2] = called.parameterCount();
        for (int k = 0; k < called.parameterCount(); k++) {
            int type = byteOf(called.parameters, k);
            if (isPlain(type)) {
                seenRow[SEEN_TYPES + k] = type + FROM_PLAIN_TO_BOX;
                seenRow[SEEN_VALUES + k] = fitted(type, given[k]);
            } else {
                showObject(k, (int) given[k]);
            }
        }
    }

    private void showObject(int k, int object) {
        boolean isThere = isWithin(object, objectCount);
        seenRow[SEEN_TYPES + k] = isThere ? objectTypes[object] : NONE;
        seenRow[SEEN_VALUES + k] = isThere ? objectValues[object] : 0;
    }

    private int fitAnswer(int result, int object) {
        latestOutcome = NONE;
        if (result == NO_VALUE) {
            return OUTCOME_NOTHING;
        }
        if (object == NONE) {
            return isPlain(result) ? OUTCOME_NOT_UNBOXED : OUTCOME_ANSWER;
        }
        int due = isPlain(result) ? result + FROM_PLAIN_TO_BOX : result;
        if (!types.isBelow(objectTypes[object], due)) {
            return OUTCOME_WRONG;
        }
        latestOutcome = isPlain(result) ? objectValues[object] : object;
        return OUTCOME_ANSWER;
    }

    private int fitThrown(StandMethod called, int object) {
        latestOutcome = object;
        if (called.caught.size == 0 || types.isBelowOneOf(objectTypes[object], called.caught)) {
            return OUTCOME_THROWN;
        }
        return OUTCOME_WRAPPED;
    }

    /** Classes in an order, none of them twice. */
    private static final class ClassRow {
        private final int[] classes;
        private int size;

        ClassRow(int room) {
            classes = new int[room];
        }

        int at(int i) {
            return isWithin(i, size) ? classes[i] : NO_VALUE;
        }

        boolean has(int type) {
            for (int i = 0; i < size; i++) {
                if (classes[i] == type) {
                    return true;
                }
            }
            return false;
        }

        void add(int type) {
            if (size < classes.length && !has(type)) {
                classes[size] = type;
                size++;
            }
        }

        void clear() {
            size = 0;
        }

        void copyFrom(ClassRow other) {
            clear();
            for (int i = 0; i < other.size; i++) {
                add(other.classes[i]);
            }
        }
    }

    /** Which types there are, and which is BELOW which. */
    private static final class Types {
        private static final int ROOM = LAST_BOX + 1;

        /** Bit b of number a says that type a is BELOW type b. It is 0 for what is not made, and for PLAIN types. */
        private final long[] aboves = new long[ROOM];
        private int nextClass = ERROR + 1;

        Types() {
            aboves[ROOT] = bit(ROOT);
            aboves[THROWN] = bit(THROWN) | bit(ROOT);
            aboves[LOOSE] = bit(LOOSE) | aboves[THROWN];
            aboves[ERROR] = bit(ERROR) | aboves[THROWN];
            for (int box = FIRST_BOX; box <= LAST_BOX; box++) {
                aboves[box] = bit(box) | bit(ROOT);
            }
        }

        private static long bit(int type) {
            return 1L << type;
        }

        int addClass(int parent) {
            if (parent != ROOT && !isClass(parent) || nextClass > LAST_CLASS) {
                return NONE;
            }
            aboves[nextClass] = bit(nextClass) | aboves[parent];
            nextClass++;
            return nextClass - 1;
        }

        void addFace(int face) {
            aboves[face] = bit(face) | bit(ROOT);
        }

        /** Those that are BELOW the interface already come BELOW the parent with it. */
        void putBelow(int face, int parent) {
            for (int type = face; type < FIRST_FACE + MOST_FACES; type++) {
                if (isBelow(type, face)) {
                    aboves[type] |= aboves[parent];
                }
            }
        }

        boolean isClass(int type) {
            return type >= THROWN && type < nextClass;
        }

        boolean isThere(int type) {
            return isPlain(type) || isWithin(type, ROOM) && aboves[type] != 0;
        }

        boolean isBelow(int a, int b) {
            return a == b || isWithin(a, ROOM) && isWithin(b, ROOM) && (aboves[a] & bit(b)) != 0;
        }

        boolean isBelowOneOf(int type, ClassRow row) {
            for (int i = 0; i < row.size; i++) {
                if (isBelow(type, row.classes[i])) {
                    return true;
                }
            }
            return false;
        }

        /** Adds to a row those of one row that are BELOW one of another. */
        void addBelow(ClassRow from, ClassRow bounds, ClassRow to) {
            for (int i = 0; i < from.size; i++) {
                if (isBelowOneOf(from.classes[i], bounds)) {
                    to.add(from.classes[i]);
                }
            }
        }

        void dropBelow(ClassRow row, int type) {
            int kept = 0;
            for (int i = 0; i < row.size; i++) {
                if (!isBelow(row.classes[i], type)) {
                    row.classes[kept] = row.classes[i];
                    kept++;
                }
            }
            row.size = kept;
        }
    }

    /** A method of an interface's own, or of ROOT's. */
    private static final class OwnMethod {
        private final int owner;
        private final int number;
        private final int name;
        /** A byte for each type, the first one lowest. */
        private final int parameters;
        private final int result;
        private final ClassRow thrown = new ClassRow(MOST_OWN_THROWN);

        OwnMethod(int owner, int number, int name, int parameters, int result) {
            this.owner = owner;
            this.number = number;
            this.name = name;
            this.parameters = parameters;
            this.result = result;
        }

        boolean hasSignatureOf(OwnMethod other) {
            return name == other.name && parameters == other.parameters;
        }

        int parameterCount() {
            return lengthOf(parameters);
        }
    }

    private static final class Face {
        private final int loader;
        private final int name;
        private final int pack;
        private final boolean open;
        private final int[] parents = new int[MOST_PARENTS];
        private int parentCount;
        private final OwnMethod[] own = new OwnMethod[MOST_OWN_METHODS];
        private int ownCount;
        /** Its METHODS, when they are gathered. */
        private final OwnMethod[] all = new OwnMethod[MOST_FACES * MOST_OWN_METHODS];
        private int allCount;

        Face(int loader, int name, int pack, boolean open) {
            this.loader = loader;
            this.name = name;
            this.pack = pack;
            this.open = open;
        }

        boolean hasParent(int parent) {
            for (int p = 0; p < parentCount; p++) {
                if (parents[p] == parent) {
                    return true;
                }
            }
            return false;
        }

        void addParent(int parent) {
            if (parentCount < parents.length) {
                parents[parentCount] = parent;
                parentCount++;
            }
        }

        boolean hasOwn(int methodName, int parameters) {
            for (int m = 0; m < ownCount; m++) {
                if (own[m].name == methodName && own[m].parameters == parameters) {
                    return true;
                }
            }
            return false;
        }

        void addOwn(OwnMethod added) {
            if (ownCount < own.length) {
                own[ownCount] = added;
                ownCount++;
            }
        }

        void gatherOwn() {
            allCount = 0;
            for (int m = 0; m < ownCount; m++) {
                gather(own[m]);
            }
        }

        void gatherFrom(Face parent) {
            for (int m = 0; m < parent.allCount; m++) {
                OwnMethod inherited = parent.all[m];
                if (!hasOwn(inherited.name, inherited.parameters)) {
                    gather(inherited);
                }
            }
        }

        /**
         * One that comes by two ways is kept once: a method that meets itself again in a stand-in class changes
         * nothing there, and the row stays short however the interfaces are woven.
         */
        private void gather(OwnMethod found) {
            for (int m = 0; m < allCount; m++) {
                if (all[m].owner == found.owner && all[m].number == found.number) {
                    return;
                }
            }
            if (allCount < all.length) {
                all[allCount] = found;
                allCount++;
            }
        }
    }

    /** A method of a stand-in class. */
    private static final class StandMethod {
        private OwnMethod source;
        private final ClassRow thrown = new ClassRow(MOST_CLASSES);
        private final ClassRow caught = new ClassRow(MOST_CLASSES);
    }

    private static final class StandIn {
        private final int loader;
        private final int listed;
        private final int pack;
        private final int number;
        private final StandMethod[] methods;
        private byte[] unit;
        private int handled = NONE;
        private boolean throwing;

        StandIn(int loader, int listed, int pack, int number, int methodCount) {
            this.loader = loader;
            this.listed = listed;
            this.pack = pack;
            this.number = number;
            methods = new StandMethod[methodCount];
        }
    }

    /** The methods of a stand-in class that may come to be made. */
    private static final class Draft {
        private final Types types;
        /** In the class's order. What a failed class leaves behind is used again by the next one. */
        private final StandMethod[] methods = new StandMethod[ROOT_METHODS + MOST_FACES * MOST_OWN_METHODS];
        private int size;
        private final ClassRow soFar = new ClassRow(MOST_CLASSES);

        Draft(Types types) {
            this.types = types;
        }

        void clear() {
            size = 0;
        }

        void take(OwnMethod taken) {
            int place = size;
            for (int i = 0; i < size; i++) {
                if (methods[i].source.hasSignatureOf(taken)) {
                    if (methods[i].source.result == taken.result) {
                        narrow(methods[i].thrown, taken.thrown);
                        return;
                    }
                    place = i + 1;
                }
            }
            insert(place, taken);
        }

        private void narrow(ClassRow thrown, ClassRow other) {
            soFar.copyFrom(thrown);
            thrown.clear();
            types.addBelow(soFar, other, thrown);
            types.addBelow(other, soFar, thrown);
        }

        private void insert(int place, OwnMethod taken) {
            if (size == methods.length) {
                return;
            }
            StandMethod added = methods[size] != null ? methods[size] : new StandMethod();
            for (int i = size; i > place; i--) {
                methods[i] = methods[i - 1];
            }
            added.source = taken;
            added.thrown.copyFrom(taken.thrown);
            methods[place] = added;
            size++;
        }

        boolean resultsAgree() {
            for (int i = 0; i < size; i++) {
                boolean isFirst = i == 0 || !methods[i].source.hasSignatureOf(methods[i - 1].source);
                if (isFirst && !resultsAgreeWithin(i, endOfSignature(i))) {
                    return false;
                }
            }
            return true;
        }

        private int endOfSignature(int from) {
            int end = from + 1;
            while (end < size && methods[end].source.hasSignatureOf(methods[from].source)) {
                end++;
            }
            return end;
        }

        private boolean resultsAgreeWithin(int from, int end) {
            if (end - from == 1) {
                return true;
            }
            boolean hasLowest = false;
            for (int i = from; i < end; i++) {
                int result = methods[i].source.result;
                if (result == NO_VALUE || isPlain(result)) {
                    return false;
                }
                hasLowest = hasLowest || isBelowAll(result, from, end);
            }
            return hasLowest;
        }

        private boolean isBelowAll(int result, int from, int end) {
            for (int i = from; i < end; i++) {
                if (!types.isBelow(result, methods[i].source.result)) {
                    return false;
                }
            }
            return true;
        }

        /** Gives the methods away for good, so that a later draft can't change a class that is made. */
        void handOver(StandMethod[] to) {
            for (int i = 0; i < size && i < to.length; i++) {
                fillCaught(methods[i]);
                to[i] = methods[i];
                methods[i] = null;
            }
            size = 0;
        }

        private void fillCaught(StandMethod filled) {
            ClassRow caught = filled.caught;
            caught.clear();
            if (filled.thrown.has(THROWN)) {
                return;
            }
            caught.add(LOOSE);
            caught.add(ERROR);
            for (int i = 0; i < filled.thrown.size; i++) {
                int type = filled.thrown.at(i);
                if (types.isBelow(type, THROWN) && !types.isBelowOneOf(type, caught)) {
                    types.dropBelow(caught, type);
                    caught.add(type);
                }
            }
        }
    }

    /** Writes units. What is behind the POOL is written first, since it tells what the POOL must hold. */
    private static final class UnitWriter {
        private static final int ENTRY_TYPE = 1;
        private static final int ENTRY_METHOD = 2;
        private static final int ENTRY_NAME = 3;
        private static final int METHOD_KEYS = LAST_BOX + 1;
        private static final int NAME_KEYS = METHOD_KEYS + (FIRST_FACE + MOST_FACES) * MOST_OWN_METHODS;
        private static final int KEYS = NAME_KEYS + METHOD_NAMES;
        private static final int HEAD = 3;
        private static final int POOL_ROOM = 512;
        private static final int BODY_ROOM = 3200;

        /** The entry's number for each thing that can have one, so that none is looked for. */
        private final int[] entryOf = new int[KEYS];
        private int entryCount;
        private final byte[] pool = new byte[POOL_ROOM];
        private int poolSize;
        private final byte[] body = new byte[BODY_ROOM];
        private int bodySize;

        byte[] write(StandIn made) {
            Arrays.fill(entryOf, NONE);
            entryCount = 0;
            poolSize = 0;
            bodySize = 0;
            put(made.pack);
            put(made.number);
            putTypes(made.listed);
            put(made.methods.length);
            for (int i = 0; i < made.methods.length; i++) {
                putMethod(made.methods[i]);
            }
            return joined();
        }

        private byte[] joined() {
            byte[] unit = new byte[HEAD + poolSize + bodySize];
            unit[0] = 70;
            unit[1] = 1;
            unit[2] = (byte) entryCount;
            System.arraycopy(pool, 0, unit, HEAD, poolSize);
            System.arraycopy(body, 0, unit, HEAD + poolSize, bodySize);
            return unit;
        }

        private void putMethod(StandMethod written) {
            OwnMethod source = written.source;
            putEntry(NAME_KEYS + source.name, ENTRY_NAME, source.name);
            putTypes(source.parameters);
            putType(source.result);
            putRow(written.thrown);
            int lengthAt = bodySize;
            put(0);
            putCode(source, written.caught.size > 0);
            body[lengthAt] = (byte) (bodySize - lengthAt - 1);
            putRow(written.caught);
        }

        private void putTypes(int packed) {
            put(lengthOf(packed));
            for (int k = 0; k < lengthOf(packed); k++) {
                putType(byteOf(packed, k));
            }
        }

        private void putRow(ClassRow row) {
            put(row.size);
            for (int i = 0; i < row.size; i++) {
                putType(row.at(i));
            }
        }

        private void putCode(OwnMethod source, boolean catches) {
            put(1);
            put(2);
            put(3);
            putMethodEntry(source);
            if (source.parameters == 0) {
                put(4);
            } else {
                put(5);
                put(source.parameterCount());
                putParameterCode(source);
            }
            put(11);
            putResultCode(source.result);
            if (catches) {
                put(17);
                put(18);
            }
        }

        private void putParameterCode(OwnMethod source) {
            int place = 1;
            for (int k = 0; k < source.parameterCount(); k++) {
                int type = byteOf(source.parameters, k);
                put(6);
                put(7);
                put(k);
                put(8);
                put(place);
                if (isPlain(type)) {
                    put(9);
                    put(type);
                }
                put(10);
                place += type == LONG ? 2 : 1;
            }
        }

        private void putResultCode(int result) {
            if (result == NO_VALUE) {
                put(12);
                put(16);
                return;
            }
            put(13);
            putType(isPlain(result) ? result + FROM_PLAIN_TO_BOX : result);
            if (isPlain(result)) {
                put(14);
                put(result);
            }
            put(15);
        }

        private void putType(int type) {
            putEntry(type, ENTRY_TYPE, type);
        }

        private void putMethodEntry(OwnMethod source) {
            boolean isNew = putEntry(METHOD_KEYS + source.owner * MOST_OWN_METHODS + source.number,
                    ENTRY_METHOD, source.owner);
            if (isNew) {
                putInPool(source.number);
            }
        }

        /** Answers whether the entry is new. */
        private boolean putEntry(int key, int kind, int first) {
            boolean isNew = entryOf[key] == NONE;
            if (isNew) {
                entryOf[key] = entryCount;
                entryCount++;
                putInPool(kind);
                putInPool(first);
            }
            put(entryOf[key]);
            return isNew;
        }

        private void putInPool(int octet) {
            if (poolSize < pool.length) {
                pool[poolSize] = (byte) octet;
                poolSize++;
            }
        }

        private void put(int octet) {
            if (bodySize < body.length) {
                body[bodySize] = (byte) octet;
                bodySize++;
            }
        }
    }
}
