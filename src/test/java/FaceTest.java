import java.lang.reflect.Constructor;
import java.lang.reflect.Field;
import java.lang.reflect.Method;
import java.lang.reflect.Modifier;
import java.util.ArrayList;
import java.util.Arrays;
import java.util.List;
import java.util.Set;
import java.util.TreeSet;

/** The class has the document's face and no other member that can be seen from outside. */
public final class FaceTest {
    private static final String INDEX = " throws IndexOutOfBoundsException";
    private static final String ARGUMENT = ", IllegalArgumentException";
    private static final String STATE = ", IllegalStateException";

    private static final String[] FACE = {
        "boolean put(int, int, int)" + INDEX + ARGUMENT,
        "int reading(int, int)" + INDEX,
        "boolean level(int, boolean, int)" + INDEX + ARGUMENT,
        "int copy(int, int)" + INDEX + ARGUMENT,
        "int straight(int, int, int)" + INDEX + ARGUMENT,
        "int turned(int, int, int)" + INDEX + ARGUMENT,
        "int between(int, int, int)" + INDEX,
        "int must(int, int, int, int)" + INDEX + ARGUMENT + STATE,
        "int watch(int, int, boolean)" + INDEX,
        "boolean isOpen(int)" + INDEX,
        "int climb(int, int, int)" + INDEX + ARGUMENT,
        "int drift(int, int, int)" + INDEX + ARGUMENT,
        "int pick(int, int)" + INDEX + ARGUMENT,
        "int keep(int, int)" + INDEX + ARGUMENT,
        "int notes(int)" + INDEX,
        "int gaps(int)" + INDEX,
        "int settle(int, int)" + INDEX + ARGUMENT,
        "int meet(int, int, int)" + INDEX + ARGUMENT,
        "boolean alike(int, int)" + INDEX + ARGUMENT,
        "int merge(int, int, int, int)" + INDEX + ARGUMENT,
    };

    private static int wrong = 0;

    private static void due(String what, Object got, Object want) {
        if (!got.equals(want)) {
            wrong++;
            System.out.println(what + ": got " + got + ", due is " + want);
        }
    }

    private static String names(Class<?>[] classes) {
        List<String> names = new ArrayList<>();
        for (Class<?> one : classes) {
            names.add(one.getSimpleName());
        }
        return String.join(", ", names);
    }

    private static String face(Method method) {
        String text = method.getReturnType().getSimpleName() + " " + method.getName() + "(" + names(method.getParameterTypes()) + ")";
        return method.getExceptionTypes().length == 0 ? text : text + " throws " + names(method.getExceptionTypes());
    }

    private static void methods() {
        Set<String> seen = new TreeSet<>();
        Set<String> publicNames = new TreeSet<>();
        Set<String> privateNames = new TreeSet<>();
        for (Method method : TideHouse.class.getDeclaredMethods()) {
            if (Modifier.isPrivate(method.getModifiers())) {
                privateNames.add(method.getName());
                continue;
            }
            due(method.getName() + " is public and not static", Modifier.isPublic(method.getModifiers()) && !Modifier.isStatic(method.getModifiers()), true);
            publicNames.add(method.getName());
            seen.add(face(method));
        }
        due("methods", seen, new TreeSet<>(Arrays.asList(FACE)));
        privateNames.retainAll(publicNames);
        due("private methods with a public one's name", privateNames, new TreeSet<String>());
    }

    private static void fields() {
        Set<String> seen = new TreeSet<>();
        for (Field field : TideHouse.class.getDeclaredFields()) {
            if (!Modifier.isPrivate(field.getModifiers())) {
                seen.add(Modifier.toString(field.getModifiers()) + " " + field.getType().getSimpleName() + " " + field.getName());
            }
            if (Modifier.isStatic(field.getModifiers())) {
                due(field.getName() + " is final", Modifier.isFinal(field.getModifiers()), true);
            }
        }
        due("constants", seen, new TreeSet<>(List.of("public static final int MISSING")));
        due("MISSING", TideHouse.MISSING, -2147483648);
    }

    private static void constructors() {
        Constructor<?>[] all = TideHouse.class.getDeclaredConstructors();
        due("constructors", all.length, 1);
        due("constructor is public", Modifier.isPublic(all[0].getModifiers()), true);
        due("constructor's parameters", all[0].getParameterCount(), 0);
        due("constructor's exceptions", all[0].getExceptionTypes().length, 0);
    }

    public static void main(String[] args) {
        due("class", Modifier.toString(TideHouse.class.getModifiers()), "public final");
        due("class above", TideHouse.class.getSuperclass(), Object.class);
        methods();
        fields();
        constructors();
        System.out.println(wrong == 0 ? "the face is as due" : wrong + " parts of the face are not as due");
        if (wrong != 0) {
            System.exit(1);
        }
    }
}
