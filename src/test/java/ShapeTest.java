import java.lang.reflect.Constructor;
import java.lang.reflect.Field;
import java.lang.reflect.Method;
import java.lang.reflect.Modifier;
import java.util.Set;
import java.util.TreeSet;

/** The public face: what the document names, and nothing else that can be seen from outside. */
public final class ShapeTest {
    private static final Check CHECK = new Check();

    private static final Set<String> FACE = Set.of(
            "int loader(int)", "int type(int)", "int face(int,int,int,boolean)", "boolean extend(int,int)",
            "int method(int,int,int)", "boolean throwing(int,int,int)", "int object(int,long)", "long value(int,int)",
            "boolean below(int,int)", "int find(int,int,int)", "int stand(int,int)", "int fault()",
            "int about(int,int)", "int told(int,int,int)", "int octet(int,int)", "boolean handler(int,int,boolean)",
            "int call(int,int,long,long,long)", "long outcome()", "long seen(int)");

    public static void main(String[] args) {
        Class<?> mill = StandInMill.class;
        CHECK.due("public", Modifier.isPublic(mill.getModifiers()), true);
        CHECK.due("final", Modifier.isFinal(mill.getModifiers()), true);
        methods(mill);
        fields(mill);
        Constructor<?>[] constructors = mill.getDeclaredConstructors();
        CHECK.due("constructors", constructors.length, 1);
        CHECK.due("its parameters", constructors[0].getParameterCount(), 0);
        CHECK.due("public constructor", Modifier.isPublic(constructors[0].getModifiers()), true);
        for (Class<?> inside : mill.getDeclaredClasses()) {
            CHECK.due("static: " + inside, Modifier.isStatic(inside.getModifiers()), true);
            CHECK.due("not public: " + inside, Modifier.isPublic(inside.getModifiers()), false);
            staticFieldsAreFinal(inside);
        }
        CHECK.end();
    }

    private static void methods(Class<?> mill) {
        Set<String> seen = new TreeSet<>();
        for (Method method : mill.getDeclaredMethods()) {
            if (!Modifier.isPrivate(method.getModifiers())) {
                StringBuilder parameters = new StringBuilder();
                for (Class<?> type : method.getParameterTypes()) {
                    parameters.append(parameters.length() == 0 ? "" : ",").append(type.getName());
                }
                seen.add(method.getReturnType().getName() + " " + method.getName() + "(" + parameters + ")");
            } else {
                boolean borne = FACE.stream().anyMatch(told -> told.contains(" " + method.getName() + "("));
                CHECK.due("a private method bears a public name: " + method.getName(), borne, false);
            }
        }
        CHECK.due("methods, they are " + seen, seen.equals(FACE), true);
    }

    private static void fields(Class<?> mill) {
        for (Field field : mill.getDeclaredFields()) {
            boolean isPrivate = Modifier.isPrivate(field.getModifiers());
            CHECK.due("private: " + field.getName(), isPrivate, !field.getName().equals("NONE"));
        }
        staticFieldsAreFinal(mill);
    }

    private static void staticFieldsAreFinal(Class<?> holder) {
        for (Field field : holder.getDeclaredFields()) {
            if (Modifier.isStatic(field.getModifiers())) {
                CHECK.due("final: " + field, Modifier.isFinal(field.getModifiers()), true);
            }
        }
    }
}
