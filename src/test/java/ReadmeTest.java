import java.io.IOException;
import java.lang.reflect.InvocationTargetException;
import java.lang.reflect.Method;
import java.lang.reflect.Modifier;
import java.nio.file.Files;
import java.nio.file.Path;
import java.util.ArrayList;
import java.util.List;
import java.util.Set;
import java.util.TreeSet;
import java.util.regex.Matcher;
import java.util.regex.Pattern;

/** Makes the calls of README.md, in their order: each must answer what is written behind it. */
public final class ReadmeTest {
    private static final Check CHECK = new Check();
    private static final String NEW_MILL = "StandInMill mill = new StandInMill();";
    private static final Pattern CALL = Pattern.compile("mill\\.(\\w+)\\((.*)\\); +// ([^:]+)(: .*)?");
    private static final int MOST_CALLS = 512;

    public static void main(String[] args) throws IOException, ReflectiveOperationException {
        StandInMill mill = null;
        int calls = 0;
        Set<String> called = new TreeSet<>();
        for (String line : exampleLines()) {
            if (line.equals(NEW_MILL)) {
                mill = new StandInMill();
                calls = 0;
                continue;
            }
            Matcher call = CALL.matcher(line);
            if (!call.matches() || mill == null) {
                CHECK.due("no call of a mill: " + line, false, true);
                continue;
            }
            called.add(call.group(1));
            calls++;
            String got = answer(mill, call.group(1), call.group(2));
            CHECK.due(line + " (it was " + got + ")", got.equals(call.group(3)), true);
            CHECK.due("within 512 calls: " + line, calls <= MOST_CALLS, true);
        }
        everyMethodIsThere(called);
        CHECK.end();
    }

    /** The lines between the marks of Java examples. */
    private static List<String> exampleLines() throws IOException {
        List<String> found = new ArrayList<>();
        boolean within = false;
        for (String line : Files.readAllLines(Path.of("README.md"))) {
            if (line.startsWith("```")) {
                within = line.equals("```java");
            } else if (within) {
                found.add(line);
            }
        }
        return found;
    }

    private static void everyMethodIsThere(Set<String> called) {
        for (Method method : StandInMill.class.getDeclaredMethods()) {
            if (Modifier.isPublic(method.getModifiers())) {
                CHECK.due("README.md shows " + method.getName(), called.contains(method.getName()), true);
            }
        }
    }

    private static String answer(StandInMill mill, String name, String written) throws ReflectiveOperationException {
        String[] texts = written.isEmpty() ? new String[0] : written.split(", ");
        Method method = methodNamed(name);
        Class<?>[] types = method.getParameterTypes();
        if (types.length != texts.length) {
            return texts.length + " parameters";
        }
        Object[] given = new Object[texts.length];
        for (int i = 0; i < texts.length; i++) {
            given[i] = read(texts[i], types[i]);
        }
        try {
            return shown(method.invoke(mill, given));
        } catch (InvocationTargetException e) {
            return "throws " + e.getCause().getClass().getSimpleName();
        }
    }

    private static Method methodNamed(String name) throws NoSuchMethodException {
        for (Method method : StandInMill.class.getMethods()) {
            if (method.getName().equals(name)) {
                return method;
            }
        }
        throw new NoSuchMethodException(name);
    }

    private static Object read(String text, Class<?> type) {
        if (type == boolean.class) {
            return text.equals("true");
        }
        long number = text.equals("StandInMill.NONE") ? StandInMill.NONE : Long.decode(text);
        if (type == long.class) {
            return number;
        }
        return (int) number;
    }

    private static String shown(Object answer) {
        boolean isNone = answer instanceof Number number && number.longValue() == StandInMill.NONE;
        return isNone ? "NONE" : String.valueOf(answer);
    }
}
