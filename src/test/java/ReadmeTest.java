import java.io.IOException;
import java.lang.reflect.InvocationTargetException;
import java.lang.reflect.Method;
import java.lang.reflect.Modifier;
import java.nio.file.Files;
import java.nio.file.Path;
import java.util.HashMap;
import java.util.Map;
import java.util.regex.Matcher;
import java.util.regex.Pattern;

/** README.md against the class: its calls have the answers that it tells, and its tables have every call. */
public final class ReadmeTest {
    private static final Checks c = new Checks("ReadmeTest");
    private static final Pattern CALL = Pattern.compile("^pay\\.(\\w+)\\((.*?)\\);(?:\\s*// (\\S+))?$");
    private static final Pattern ROW =
        Pattern.compile("^\\| `(int|boolean|void) (\\w+)\\(([^)]*)\\)` \\| (.+?) \\| (.+?) \\|$");
    /** Calls that have no refusal by the document. */
    private static final String NEVER_REFUSED = " near stay idle ";
    private static final int[] OUTSIDE = {Integer.MIN_VALUE, Integer.MAX_VALUE, -3};

    public static void main(String[] args) throws IOException, ReflectiveOperationException {
        String text = Files.readString(Path.of("README.md"));
        runExample(text);
        compareTables(text);
        c.yes("the command of the tests", text.contains("\n    .ci/run\n"));
        c.finish();
    }

    private static void runExample(String text) throws ReflectiveOperationException {
        VillagePay pay = new VillagePay();
        int calls = 0;
        for (String line : text.split("\n")) {
            Matcher m = CALL.matcher(line);
            if (!line.startsWith("pay.")) {
                continue;
            }
            c.yes("a call in the example: " + line, m.matches());
            Object got = call(pay, m.group(1), m.group(2));
            String told = m.group(3);
            c.yes(line + " (answered " + got + ")", told == null ? got == null : told.equals(String.valueOf(got)));
            calls++;
        }
        c.yes("an example with calls", calls > 30);
    }

    private static Object call(VillagePay pay, String name, String given) throws ReflectiveOperationException {
        Method m = methods().get(name);
        String[] parts = given.isEmpty() ? new String[0] : given.split(", ");
        Object[] a = new Object[parts.length];
        for (int i = 0; i < a.length; i++) {
            boolean truth = m.getParameterTypes()[i] == boolean.class;
            a[i] = truth ? (Object) Boolean.valueOf(parts[i]) : (Object) Long.decode(parts[i]).intValue();
        }
        return m.invoke(pay, a);
    }

    private static Map<String, Method> methods() {
        Map<String, Method> all = new HashMap<>();
        for (Method m : VillagePay.class.getDeclaredMethods()) {
            if (Modifier.isPublic(m.getModifiers())) {
                all.put(m.getName(), m);
            }
        }
        return all;
    }

    private static void compareTables(String text) throws ReflectiveOperationException {
        Map<String, Method> left = methods();
        for (String line : text.split("\n")) {
            Matcher m = ROW.matcher(line);
            if (!line.startsWith("| `")) {
                continue;
            }
            c.yes("a row of the table: " + line, m.matches());
            Method method = left.remove(m.group(2));
            c.yes("a call of the face, told once: " + m.group(2), method != null);
            if (method != null) {
                c.yes("the kinds of " + m.group(2), kinds(m.group(1), m.group(3)).equals(kinds(method)));
                compareRefusal(method, m.group(5));
            }
        }
        c.yes("each call of the face has a row, but not " + left.keySet(), left.isEmpty());
    }

    private static String kinds(String answer, String parameters) {
        return answer + " " + parameters.replaceAll(" \\w+(,|$)", "$1").replace(" ", "");
    }

    private static String kinds(Method m) {
        StringBuilder all = new StringBuilder(m.getReturnType().getName()).append(' ');
        for (int i = 0; i < m.getParameterCount(); i++) {
            all.append(i == 0 ? "" : ",").append(m.getParameterTypes()[i].getName());
        }
        return all.toString();
    }

    /** The cell begins with the answer to numbers that are far outside every range. */
    private static void compareRefusal(Method m, String cell) throws IllegalAccessException, InvocationTargetException {
        boolean never = NEVER_REFUSED.contains(" " + m.getName() + " ");
        c.is(m.getName() + " is never refused", cell.equals("never"), never);
        if (never || m.getName().equals("feed")) {
            return;
        }
        String told = cell.replaceAll(":.*", "");
        for (int n : OUTSIDE) {
            Object[] a = new Object[m.getParameterCount()];
            for (int i = 0; i < a.length; i++) {
                a[i] = m.getParameterTypes()[i] == boolean.class ? (Object) true : (Object) n;
            }
            String got = String.valueOf(m.invoke(new VillagePay(), a));
            boolean second = m.getName().equals("reign") && cell.contains("; " + got + ": ");
            c.yes(m.getName() + " refuses " + n + " with " + got + ", told is " + cell, got.equals(told) || second);
        }
    }
}
