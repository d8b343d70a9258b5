import java.util.ArrayList;
import java.util.HashMap;
import java.util.List;
import java.util.Map;

/** The document's words once more, put plainly and without care for room: what the mill is held against. */
final class PlainModel {
    record Method(int owner, int number, int name, List<Integer> parameters, int result, List<Integer> thrown) {
        boolean sameSignature(Method other) {
            return name == other.name && parameters.equals(other.parameters);
        }
    }

    record Face(int loader, int name, int pack, boolean open, List<Integer> parents, List<Method> own) { }

    record Thing(int type, long value) { }

    record StandMethod(Method from, List<Integer> thrown, List<Integer> caught) { }

    static final class Stand {
        int loader;
        List<Integer> list;
        int pack;
        int number;
        List<StandMethod> methods;
        List<Integer> unit;
        int handled = -1;
        boolean throwing;
    }

    private final List<Integer> loaders = new ArrayList<>(List.of(-1));
    private final Map<Integer, Integer> classes = new HashMap<>(Map.of(8, 7, 9, 8, 10, 8));
    private final List<Face> faces = new ArrayList<>();
    private final List<Thing> things = new ArrayList<>();
    private final List<Stand> stands = new ArrayList<>();
    private final List<Method> roots = List.of(
            new Method(7, 0, 26, List.of(), 5, List.of()),
            new Method(7, 1, 27, List.of(7), 1, List.of()),
            new Method(7, 2, 28, List.of(), 7, List.of()));
    private int fault;
    private long outcome = -1;
    private Method seenMethod;
    private List<Thing> seenThings;

    int loader(int parent) {
        if (parent < 0 || parent >= loaders.size() || loaders.size() == 4) {
            return -1;
        }
        loaders.add(parent);
        return loaders.size() - 1;
    }

    int type(int parent) {
        if (parent != 7 && !classes.containsKey(parent) || classes.size() == 16) {
            return -1;
        }
        int type = 8 + classes.size();
        classes.put(type, parent);
        return type;
    }

    int face(int loader, int name, int pack, boolean open) {
        if (loader < 0 || loader >= loaders.size() || name < 0 || name > 25 || pack < 0 || pack > 3
                || find(loader, name, pack) != -1 || faces.size() == 12) {
            return -1;
        }
        faces.add(new Face(loader, name, pack, open, new ArrayList<>(), new ArrayList<>()));
        return 23 + faces.size();
    }

    private boolean isFace(int type) {
        return type >= 24 && type < 24 + faces.size();
    }

    private boolean isBox(int type) {
        return type >= 41 && type <= 46;
    }

    private boolean isPlain(int type) {
        return type >= 1 && type <= 6;
    }

    private boolean isThere(int type) {
        return isPlain(type) || type == 7 || classes.containsKey(type) || isFace(type) || isBox(type);
    }

    boolean extend(int face, int parent) {
        if (!isFace(face) || !isFace(parent) || parent >= face || !stands.isEmpty()) {
            return false;
        }
        Face child = faces.get(face - 24);
        if (child.parents.contains(parent) || child.parents.size() == 2 || !isVisible(parent, child.loader)) {
            return false;
        }
        child.parents.add(parent);
        return true;
    }

    private boolean isVisible(int face, int loader) {
        return find(loader, faces.get(face - 24).name, faces.get(face - 24).pack) == face;
    }

    int method(int face, int name, int types) {
        if (!isFace(face) || name < 0 || name > 28 || !stands.isEmpty()) {
            return -1;
        }
        int result = types & 255;
        List<Integer> parameters = bytes(types >>> 8);
        if (result != 0 && !isThere(result)) {
            return -1;
        }
        for (int parameter : parameters) {
            if (!isThere(parameter)) {
                return -1;
            }
        }
        List<Method> own = faces.get(face - 24).own;
        Method made = new Method(face, own.size(), name, parameters, result, new ArrayList<>());
        if (own.size() == 6 || own.stream().anyMatch(made::sameSignature)) {
            return -1;
        }
        own.add(made);
        return own.size() - 1;
    }

    private static List<Integer> bytes(int packed) {
        List<Integer> bytes = new ArrayList<>();
        for (int rest = packed; (rest & 255) != 0; rest >>>= 8) {
            bytes.add(rest & 255);
        }
        return bytes;
    }

    boolean throwing(int face, int m, int type) {
        if (!isFace(face) || m < 0 || m >= faces.get(face - 24).own.size() || !classes.containsKey(type)
                || !stands.isEmpty()) {
            return false;
        }
        List<Integer> thrown = faces.get(face - 24).own.get(m).thrown;
        return !thrown.contains(type) && thrown.size() < 3 && thrown.add(type);
    }

    int object(int type, long value) {
        if (!classes.containsKey(type) && !isBox(type) || things.size() == 32) {
            return -1;
        }
        things.add(isBox(type) ? boxed(type - 40, value) : new Thing(type, value));
        return things.size() - 1;
    }

    private static Thing boxed(int plain, long value) {
        long kept = switch (plain) {
            case 1 -> value == 0 ? 0 : 1;
            case 2 -> (byte) value;
            case 3 -> value & 0xffff;
            case 4 -> (short) value;
            case 5 -> (int) value;
            default -> value;
        };
        return new Thing(40 + plain, kept);
    }

    long value(int object, int what) {
        if (object < 0 || object >= things.size()) {
            return -1;
        }
        return what == 0 ? things.get(object).type : what == 1 ? things.get(object).value : -1;
    }

    boolean below(int a, int b) {
        if (a == b) {
            return true;
        }
        if (!isThere(a) || isPlain(a)) {
            return false;
        }
        if (b == 7) {
            return true;
        }
        if (classes.containsKey(a)) {
            return below(classes.get(a), b);
        }
        return isFace(a) && faces.get(a - 24).parents.stream().anyMatch(parent -> below(parent, b));
    }

    private boolean belowOne(int type, List<Integer> row) {
        return row.stream().anyMatch(other -> below(type, other));
    }

    int find(int loader, int name, int pack) {
        if (loader < 0 || loader >= loaders.size()) {
            return -1;
        }
        int found = find(loaders.get(loader), name, pack);
        for (int f = 0; f < faces.size() && found == -1; f++) {
            Face face = faces.get(f);
            if (face.loader == loader && face.name == name && face.pack == pack) {
                found = 24 + f;
            }
        }
        return found;
    }

    private List<Method> methodsOf(int type) {
        Face face = faces.get(type - 24);
        List<Method> all = new ArrayList<>(face.own);
        for (int parent : face.parents) {
            for (Method inherited : methodsOf(parent)) {
                if (face.own.stream().noneMatch(inherited::sameSignature)) {
                    all.add(inherited);
                }
            }
        }
        return all;
    }

    int stand(int loader, int packed) {
        fault = 0;
        List<Integer> list = bytes(packed);
        if (loader < 0 || loader >= loaders.size() || list.isEmpty() || !list.stream().allMatch(this::isFace)) {
            return Check.OUT_OF_BOUNDS;
        }
        for (int s = 0; s < stands.size(); s++) {
            if (stands.get(s).loader == loader && stands.get(s).list.equals(list)) {
                return s;
            }
        }
        List<StandMethod> methods = standMethods(list);
        fault = faultOf(loader, list, methods);
        if (fault != 0) {
            return Check.ILLEGAL;
        }
        Stand made = new Stand();
        made.loader = loader;
        made.list = list;
        made.pack = list.stream().map(f -> faces.get(f - 24)).filter(f -> !f.open).map(Face::pack)
                .findFirst().orElse(4);
        made.number = (int) stands.stream().filter(s -> s.pack == made.pack).count();
        made.methods = methods;
        made.unit = unitOf(made);
        stands.add(made);
        return stands.size() - 1;
    }

    private List<StandMethod> standMethods(List<Integer> list) {
        List<Method> coming = new ArrayList<>(roots);
        list.forEach(face -> coming.addAll(methodsOf(face)));
        List<Method> kept = new ArrayList<>();
        for (Method method : coming) {
            int at = -1;
            for (int i = 0; i < kept.size(); i++) {
                if (kept.get(i).sameSignature(method) && kept.get(i).result == method.result) {
                    at = i;
                }
            }
            if (at == -1) {
                kept.add(method);
            } else {
                Method so = kept.get(at);
                kept.set(at, new Method(so.owner, so.number, so.name, so.parameters, so.result,
                        together(so.thrown, method.thrown)));
            }
        }
        List<StandMethod> ordered = new ArrayList<>();
        for (int i = 0; i < kept.size(); i++) {
            Method first = kept.get(i);
            if (kept.subList(0, i).stream().noneMatch(first::sameSignature)) {
                kept.stream().filter(first::sameSignature)
                        .forEach(m -> ordered.add(new StandMethod(m, m.thrown, caughtOf(m.thrown))));
            }
        }
        return ordered;
    }

    private List<Integer> together(List<Integer> so, List<Integer> other) {
        List<Integer> both = new ArrayList<>();
        so.stream().filter(type -> belowOne(type, other)).forEach(both::add);
        other.stream().filter(type -> belowOne(type, so) && !both.contains(type)).forEach(both::add);
        return both;
    }

    private List<Integer> caughtOf(List<Integer> thrown) {
        List<Integer> row = new ArrayList<>(List.of(9, 10));
        for (int type : thrown) {
            if (type == 8) {
                return List.of();
            }
            if (below(type, 8) && !belowOne(type, row)) {
                row.removeIf(other -> below(other, type));
                row.add(type);
            }
        }
        return row;
    }

    private int faultOf(int loader, List<Integer> list, List<StandMethod> methods) {
        if (!list.stream().allMatch(face -> isVisible(face, loader))) {
            return 1;
        }
        if (list.stream().distinct().count() < list.size()) {
            return 2;
        }
        if (list.stream().map(f -> faces.get(f - 24)).filter(f -> !f.open).map(Face::pack).distinct().count() > 1) {
            return 3;
        }
        for (StandMethod one : methods) {
            List<Integer> results = methods.stream().filter(m -> m.from.sameSignature(one.from))
                    .map(m -> m.from.result).distinct().toList();
            boolean plain = results.stream().anyMatch(r -> r == 0 || isPlain(r));
            boolean lowest = results.stream().anyMatch(r -> results.stream().allMatch(other -> below(r, other)));
            if (results.size() > 1 && (plain || !lowest)) {
                return 4;
            }
        }
        if (methods.size() > 40) {
            return 5;
        }
        return stands.size() == 16 ? 6 : 0;
    }

    private List<Integer> unitOf(Stand made) {
        List<List<Integer>> pool = new ArrayList<>();
        List<Integer> body = new ArrayList<>(List.of(made.pack, made.number, made.list.size()));
        made.list.forEach(face -> body.add(entry(pool, 1, face)));
        body.add(made.methods.size());
        for (StandMethod method : made.methods) {
            Method from = method.from;
            body.add(entry(pool, 3, from.name));
            body.add(from.parameters.size());
            from.parameters.forEach(type -> body.add(entry(pool, 1, type)));
            body.add(entry(pool, 1, from.result));
            body.add(method.thrown.size());
            method.thrown.forEach(type -> body.add(entry(pool, 1, type)));
            List<Integer> code = codeOf(pool, method);
            body.add(code.size());
            body.addAll(code);
            body.add(method.caught.size());
            method.caught.forEach(type -> body.add(entry(pool, 1, type)));
        }
        List<Integer> unit = new ArrayList<>(List.of(70, 1, pool.size()));
        pool.forEach(unit::addAll);
        unit.addAll(body);
        return unit;
    }

    private List<Integer> codeOf(List<List<Integer>> pool, StandMethod method) {
        Method from = method.from;
        List<Integer> code = new ArrayList<>(List.of(1, 2, 3, entry(pool, 2, from.owner, from.number)));
        code.addAll(from.parameters.isEmpty() ? List.of(4) : List.of(5, from.parameters.size()));
        int place = 1;
        for (int k = 0; k < from.parameters.size(); k++) {
            int type = from.parameters.get(k);
            code.addAll(List.of(6, 7, k, 8, place));
            code.addAll(isPlain(type) ? List.of(9, type, 10) : List.of(10));
            place += type == 6 ? 2 : 1;
        }
        code.add(11);
        if (from.result == 0) {
            code.addAll(List.of(12, 16));
        } else if (isPlain(from.result)) {
            code.addAll(List.of(13, entry(pool, 1, 40 + from.result), 14, from.result, 15));
        } else {
            code.addAll(List.of(13, entry(pool, 1, from.result), 15));
        }
        if (!method.caught.isEmpty()) {
            code.addAll(List.of(17, 18));
        }
        return code;
    }

    private static int entry(List<List<Integer>> pool, Integer... octets) {
        List<Integer> wanted = List.of(octets);
        if (!pool.contains(wanted)) {
            pool.add(wanted);
        }
        return pool.indexOf(wanted);
    }

    int fault() {
        return fault;
    }

    private Stand at(int stand) {
        return stand >= 0 && stand < stands.size() ? stands.get(stand) : null;
    }

    int about(int stand, int what) {
        Stand made = at(stand);
        if (made == null || what < 0 || what > 4) {
            return -1;
        }
        return List.of(made.pack, made.number, made.methods.size(), made.unit.size(), made.loader).get(what);
    }

    int told(int stand, int k, int what) {
        Stand made = at(stand);
        if (made == null || k < 0 || k >= made.methods.size()) {
            return -1;
        }
        StandMethod method = made.methods.get(k);
        if (what >= 16 && what < 48) {
            List<Integer> row = what < 32 ? method.thrown : method.caught;
            return what % 16 < row.size() ? row.get(what % 16) : 0;
        }
        List<Integer> parameters = method.from.parameters;
        return switch (what) {
            case 0 -> method.from.name;
            case 1 -> method.from.result;
            case 2, 3, 4 -> what - 2 < parameters.size() ? parameters.get(what - 2) : 0;
            case 5 -> method.from.owner;
            case 6 -> method.from.number;
            default -> -1;
        };
    }

    int octet(int stand, int i) {
        Stand made = at(stand);
        return made == null || i < 0 || i >= made.unit.size() ? -1 : made.unit.get(i);
    }

    boolean handler(int stand, int object, boolean throwing) {
        Stand made = at(stand);
        if (made == null || object < -1 || object >= things.size()) {
            return false;
        }
        if (throwing && (object == -1 || !below(things.get(object).type, 8))) {
            return false;
        }
        made.handled = object;
        made.throwing = throwing;
        return true;
    }

    int call(int stand, int k, long a, long b, long c) {
        Stand made = at(stand);
        if (made == null || k < 0 || k >= made.methods.size()) {
            return Check.OUT_OF_BOUNDS;
        }
        StandMethod method = made.methods.get(k);
        List<Long> longs = List.of(a, b, c);
        List<Thing> got = new ArrayList<>();
        for (int p = 0; p < method.from.parameters.size(); p++) {
            int type = method.from.parameters.get(p);
            long given = longs.get(p);
            if (isPlain(type)) {
                got.add(boxed(type, given));
            } else if (given == -1) {
                got.add(null);
            } else if (given < 0 || given >= things.size() || !below(things.get((int) given).type, type)) {
                return Check.ILLEGAL;
            } else {
                got.add(things.get((int) given));
            }
        }
        seenMethod = method.from;
        seenThings = got;
        return outcomeOf(made, method);
    }

    private int outcomeOf(Stand made, StandMethod method) {
        int result = method.from.result;
        Thing thing = made.handled == -1 ? null : things.get(made.handled);
        outcome = -1;
        if (made.throwing) {
            outcome = made.handled;
            return method.caught.isEmpty() || belowOne(thing.type, method.caught) ? 4 : 5;
        }
        if (result == 0) {
            return 0;
        }
        if (isPlain(result)) {
            if (thing == null) {
                return 2;
            }
            if (thing.type != result + 40) {
                return 3;
            }
            outcome = thing.value;
            return 1;
        }
        if (thing != null && !below(thing.type, result)) {
            return 3;
        }
        outcome = made.handled;
        return 1;
    }

    long outcome() {
        return outcome;
    }

    long seen(int what) {
        if (seenMethod == null || what < 0 || what > 8) {
            return -1;
        }
        if (what < 3) {
            return List.of(seenMethod.owner, seenMethod.number, seenThings.size()).get(what);
        }
        if (what % 3 >= seenThings.size()) {
            return -1;
        }
        Thing thing = seenThings.get(what % 3);
        if (what < 6) {
            return thing == null ? -1 : thing.type;
        }
        return thing == null ? 0 : thing.value;
    }
}
