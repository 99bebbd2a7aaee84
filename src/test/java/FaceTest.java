import java.lang.reflect.Constructor;
import java.lang.reflect.Field;
import java.lang.reflect.Method;
import java.lang.reflect.Modifier;
import java.util.Set;
import java.util.TreeMap;
import java.util.TreeSet;

/** The public face: its constants, its constructor and its 32 methods, and nothing else. */
public final class FaceTest {
    private static final Check CHECK = new Check();
    private static final String[] METHODS = {"station 1", "stock 2", "gang 2", "price 2", "weather 3", "read 1", "out 2",
        "loss 2", "car 3", "load 6", "tier 3", "fill 2", "vent 2", "send 2", "turn 2", "late 2", "look 2", "feed 2",
        "wipe 0", "rule 2", "run 1", "sell 1", "worth 2", "best 1", "claim 2", "count 1", "at 2", "tell 2", "tear 0",
        "row 1", "copy 3", "status 1"};

    public static void main(String[] args) throws IllegalAccessException {
        Class<?> face = ColdLine.class;
        CHECK.so("public and final", face.getModifiers() == (Modifier.PUBLIC | Modifier.FINAL));
        constants(face);
        constructor(face);
        methods(face);
        classesInside(face);
        CHECK.end();
    }

    private static void constants(Class<?> face) throws IllegalAccessException {
        TreeMap<String, Integer> due = new TreeMap<>();
        String[] names = {"NONE", "MISSING", "BEYOND", "BELOW", "KIND", "COPY", "NO", "FULL"};
        for (int i = 0; i < names.length; i++) {
            due.put(names[i], -1 - i);
        }
        for (Field field : face.getDeclaredFields()) {
            if (!Modifier.isPrivate(field.getModifiers())) {
                CHECK.so(field.getName() + " is of the document", due.containsKey(field.getName()));
                CHECK.so(field.getName() + " is a constant",
                        field.getModifiers() == (Modifier.PUBLIC | Modifier.STATIC | Modifier.FINAL));
                CHECK.due(field.getName(), field.getInt(null), due.remove(field.getName()));
            }
        }
        CHECK.so("all constants are there", due.isEmpty());
    }

    private static void constructor(Class<?> face) {
        Constructor<?>[] all = face.getDeclaredConstructors();
        CHECK.due("constructors", all.length, 1);
        CHECK.due("its parameters", all[0].getParameterCount(), 0);
        CHECK.so("it is public", Modifier.isPublic(all[0].getModifiers()));
    }

    private static void methods(Class<?> face) {
        Set<String> due = new TreeSet<>(Set.of(METHODS));
        for (Method method : face.getDeclaredMethods()) {
            if (!Modifier.isPrivate(method.getModifiers())) {
                String told = method.getName() + " " + method.getParameterCount();
                CHECK.so(told + " is of the document", due.remove(told));
                CHECK.so(told + " is public", method.getModifiers() == Modifier.PUBLIC);
                CHECK.so(told + " answers an int", method.getReturnType() == int.class);
                for (Class<?> type : method.getParameterTypes()) {
                    CHECK.so(told + " takes ints", type == int.class);
                }
            } else {
                noNameOfTheFace(method);
            }
        }
        CHECK.so("all methods are there", due.isEmpty());
    }

    private static void noNameOfTheFace(Method method) {
        for (String told : METHODS) {
            CHECK.so(method + " has a name of its own", !told.startsWith(method.getName() + " "));
        }
    }

    private static void classesInside(Class<?> face) {
        Class<?>[] inside = face.getDeclaredClasses();
        CHECK.so("at most twelve classes", inside.length < 12);
        for (Class<?> one : inside) {
            CHECK.so(one + " is static", Modifier.isStatic(one.getModifiers()));
            CHECK.so(one + " is not public", !Modifier.isPublic(one.getModifiers()));
            for (Method method : one.getDeclaredMethods()) {
                noNameOfTheFace(method);
            }
        }
    }
}
