import java.util.ArrayList;
import java.util.List;

/** Reads the unit of a stand-in class from its first byte to its last, and holds it against what told() tells. */
final class UnitReader {
    private final Check check;
    private final String what;
    private final Renewed source;
    private final int stand;
    private final List<List<Integer>> pool = new ArrayList<>();
    private int at;
    /** How many entries have been met behind the POOL. */
    private int met;

    UnitReader(Check check, String what, Renewed source, int stand) {
        this.check = check;
        this.what = what;
        this.source = source;
        this.stand = stand;
    }

    void read(int... faces) {
        due("mark", next(), 70);
        due("version", next(), 1);
        readPool();
        due("package", next(), about(0));
        due("number", next(), about(1));
        due("interfaces", next(), faces.length);
        for (int face : faces) {
            entry("interface", 1, face);
        }
        due("methods", next(), about(2));
        for (int k = 0; k < about(2); k++) {
            readMethod(k);
        }
        due("entries that nothing needs", pool.size() - met, 0);
        due("length", at, about(3));
        due("behind the last", source.mill().octet(stand, at), -1);
    }

    private void due(String part, long got, long want) {
        check.due(what + ": " + part + " before byte " + at, got, want);
    }

    private int next() {
        int octet = source.mill().octet(stand, at);
        at++;
        return octet;
    }

    private int about(int part) {
        return source.mill().about(stand, part);
    }

    private int told(int k, int part) {
        return source.mill().told(stand, k, part);
    }

    private void readPool() {
        int count = next();
        for (int e = 0; e < count; e++) {
            int kind = next();
            due("kind of entry", kind >= 1 && kind <= 3 ? 1 : 0, 1);
            List<Integer> entry = kind == 2 ? List.of(kind, next(), next()) : List.of(kind, next());
            due("entry is there already", pool.contains(entry) ? 1 : 0, 0);
            pool.add(entry);
        }
    }

    /** An entry that comes here first must be the next one of the POOL. */
    private void entry(String part, Integer... want) {
        int number = next();
        due(part + " comes in order", number <= met ? 1 : 0, 1);
        met = Math.max(met, number + 1);
        due(part, pool.indexOf(List.of(want)), number);
    }

    private void readMethod(int k) {
        int parameters = 0;
        while (parameters < 3 && told(k, 2 + parameters) != 0) {
            parameters++;
        }
        entry("name", 3, told(k, 0));
        due("parameters", next(), parameters);
        for (int p = 0; p < parameters; p++) {
            entry("parameter", 1, told(k, 2 + p));
        }
        entry("result", 1, told(k, 1));
        readRow("thrown", k, 16);
        int length = next();
        int start = at;
        readCode(k, parameters);
        due("bytes of CODE", at - start, length);
        readRow("caught", k, 32);
    }

    private void readRow(String part, int k, int from) {
        int count = 0;
        while (count < 16 && told(k, from + count) != 0) {
            count++;
        }
        due(part, next(), count);
        for (int i = 0; i < count; i++) {
            entry(part, 1, told(k, from + i));
        }
    }

    private void octets(int... want) {
        for (int octet : want) {
            due("CODE", next(), octet);
        }
    }

    private void readCode(int k, int parameters) {
        octets(1, 2, 3);
        entry("method", 2, told(k, 5), told(k, 6));
        if (parameters == 0) {
            octets(4);
        } else {
            octets(5, parameters);
        }
        int place = 1;
        for (int p = 0; p < parameters; p++) {
            int type = told(k, 2 + p);
            octets(6, 7, p, 8, place);
            if (type <= 6) {
                octets(9, type);
            }
            octets(10);
            place += type == 6 ? 2 : 1;
        }
        octets(11);
        int result = told(k, 1);
        if (result == 0) {
            octets(12, 16);
        } else if (result <= 6) {
            octets(13);
            entry("BOX", 1, 40 + result);
            octets(14, result, 15);
        } else {
            octets(13);
            entry("result", 1, result);
            octets(15);
        }
        if (told(k, 32) != 0) {
            octets(17, 18);
        }
    }
}
