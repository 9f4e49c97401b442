import java.io.IOException;
import java.lang.reflect.InvocationTargetException;
import java.lang.reflect.Method;
import java.lang.reflect.Modifier;
import java.nio.file.Files;
import java.nio.file.Path;
import java.util.Set;
import java.util.TreeSet;
import java.util.regex.Matcher;
import java.util.regex.Pattern;

/**
 * Does the calls that README.md shows and compares the answers with those that it tells. The calls are
 * read out of README.md itself, so that no second list of them can grow apart from it. Runs from the
 * project's directory.
 */
public final class ReadmeTest {
    private static final Path README = Path.of("README.md");
    private static final String NEW_HOUSE = "TideHouse house = new TideHouse();";
    private static final Pattern CALL = Pattern.compile(
        "house\\.(\\w+)\\(([^()]*)\\); +// (-?\\d+|true|false|MISSING|throws \\w+)(: .+)?");
    private static final int MOST_CALLS = 512;

    private static int wrong = 0;
    private static int calls = 0;
    private static TideHouse house = null;
    private static final Set<String> shown = new TreeSet<>();

    private static void tell(int line, String words) {
        wrong++;
        System.out.println(README + ", line " + line + ": " + words);
    }

    private static Method method(String name) {
        for (Method method : TideHouse.class.getDeclaredMethods()) {
            if (method.getName().equals(name) && Modifier.isPublic(method.getModifiers())) {
                return method;
            }
        }
        return null;
    }

    private static Object argument(String text, Class<?> type) {
        if (type == boolean.class) {
            if (!text.equals("true") && !text.equals("false")) {
                throw new IllegalArgumentException(text + " is neither true nor false");
            }
            return text.equals("true");
        }
        return text.equals("TideHouse.MISSING") ? TideHouse.MISSING : Integer.parseInt(text);
    }

    private static Object[] arguments(String text, Class<?>[] types) {
        String[] parts = text.split(", ");
        if (parts.length != types.length) {
            throw new IllegalArgumentException(parts.length + " arguments in place of " + types.length);
        }
        Object[] values = new Object[types.length];
        for (int k = 0; k < types.length; k++) {
            values[k] = argument(parts[k], types[k]);
        }
        return values;
    }

    private static String answer(Method method, Object[] values) throws IllegalAccessException {
        try {
            Object answer = method.invoke(house, values);
            return answer.equals(-2147483648) ? "MISSING" : answer.toString();
        } catch (InvocationTargetException e) {
            return "throws " + e.getCause().getClass().getSimpleName();
        }
    }

    private static void doCall(int line, Matcher call) throws IllegalAccessException {
        Method method = method(call.group(1));
        if (method == null || house == null) {
            tell(line, method == null ? "there is no call " + call.group(1) : "a call before there is an object");
            return;
        }
        Object[] values;
        try {
            values = arguments(call.group(2), method.getParameterTypes());
        } catch (IllegalArgumentException e) {
            tell(line, "no arguments for " + call.group(1) + ": " + e.getMessage());
            return;
        }
        calls++;
        shown.add(call.group(1));
        String got = answer(method, values);
        if (!got.equals(call.group(3))) {
            tell(line, call.group(1) + "(" + call.group(2) + ") answered " + got + ", told is " + call.group(3));
        }
    }

    private static void doLine(int line, String text) throws IllegalAccessException {
        if (text.equals(NEW_HOUSE)) {
            house = new TideHouse();
            return;
        }
        Matcher call = CALL.matcher(text);
        if (call.matches()) {
            doCall(line, call);
        } else if (!text.isBlank()) {
            tell(line, "neither a new object nor a call with its answer: " + text);
        }
    }

    private static void doBlocks() throws IOException, IllegalAccessException {
        boolean inside = false;
        int line = 0;
        for (String text : Files.readAllLines(README)) {
            line++;
            if (text.startsWith("```")) {
                inside = text.equals("```java");
            } else if (inside) {
                doLine(line, text);
            }
        }
    }

    // Without this a README.md whose calls are gone, or written in another form, would pass.
    private static void allShown() {
        for (Method method : TideHouse.class.getDeclaredMethods()) {
            if (Modifier.isPublic(method.getModifiers()) && !shown.contains(method.getName())) {
                wrong++;
                System.out.println(README + " shows no call of " + method.getName());
            }
        }
        if (calls > MOST_CALLS) {
            wrong++;
            System.out.println(README + " shows " + calls + " calls: beyond " + MOST_CALLS + " an object's answers are free");
        }
    }

    public static void main(String[] args) throws IOException, IllegalAccessException {
        doBlocks();
        allShown();
        System.out.println(calls + " calls of " + README + ": " + (wrong == 0 ? "all answer as told" : wrong + " not as told"));
        if (wrong != 0) {
            System.exit(1);
        }
    }
}
