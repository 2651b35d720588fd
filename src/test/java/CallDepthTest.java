import java.io.PrintWriter;
import java.io.StringWriter;
import java.util.ArrayDeque;
import java.util.ArrayList;
import java.util.Deque;
import java.util.HashMap;
import java.util.Map;
import java.util.Set;
import java.util.TreeSet;
import java.util.regex.Matcher;
import java.util.regex.Pattern;
import java.util.spi.ToolProvider;

/** LANGUAGE.md, rules 8 and 11: no call comes back to itself, and calls go at most eight deep, the library's counted. */
public final class CallDepthTest {
    private static final Checks c = new Checks("CallDepthTest");
    private static final int DEEPEST = 8;
    private static final Pattern HEAD = Pattern.compile("^  .*?([\\w$]+)\\(.*\\);$");
    private static final Pattern KIND = Pattern.compile("^    descriptor: (\\S+)$");
    private static final Pattern CALL = Pattern.compile("// (?:Interface)?Method (\\S+)$");

    /** What each method calls, by names such as VillagePay$Book.serves:(II)Z. */
    private final Map<String, Set<String>> calls = new HashMap<>();
    private final Deque<String> open = new ArrayDeque<>();
    private int deepest;

    public static void main(String[] args) {
        CallDepthTest test = new CallDepthTest();
        test.readClass(VillagePay.class);
        for (Class<?> inside : VillagePay.class.getDeclaredClasses()) {
            test.readClass(inside);
        }
        c.yes("many methods were read", test.calls.size() > 100);
        for (String method : new ArrayList<>(test.calls.keySet())) {
            test.follow(method);
        }
        c.yes("calls were followed", test.deepest > 3);
        System.out.println("calls go " + test.deepest + " deep");
        c.finish();
    }

    private void readClass(Class<?> it) {
        ToolProvider javap = ToolProvider.findFirst("javap").orElseThrow();
        StringWriter text = new StringWriter();
        PrintWriter out = new PrintWriter(text);
        int code = javap.run(out, out, "-p", "-c", "-s", "-cp", System.getProperty("java.class.path"), it.getName());
        c.is("javap of " + it.getName(), code, 0);
        String name = "";
        String method = "";
        for (String line : text.toString().split("\\R")) {
            Matcher head = HEAD.matcher(line);
            Matcher kind = KIND.matcher(line);
            Matcher call = CALL.matcher(line);
            if (head.matches()) {
                name = head.group(1).equals(it.getName()) ? "<init>" : head.group(1);
            } else if (kind.matches()) {
                method = it.getName() + "." + name + ":" + kind.group(1);
                calls.putIfAbsent(method, new TreeSet<>());
            } else if (call.find()) {
                String to = call.group(1).replace("\"", "");
                boolean own = !to.substring(0, to.indexOf(':')).contains(".");
                String target = own ? it.getName() + "." + to : to;
                c.yes(target + " is of the library or read", target.startsWith("java/") || target.startsWith("VillagePay"));
                calls.get(method).add(target);
            }
        }
    }

    private void follow(String method) {
        if (open.contains(method)) {
            c.yes("comes back to itself: " + method, false);
            return;
        }
        open.addLast(method);
        deepest = Math.max(deepest, open.size());
        if (open.size() > DEEPEST) {
            c.yes("too deep: " + open, false);
        } else {
            for (String next : calls.getOrDefault(method, Set.of())) {
                c.yes(next + " was read", next.startsWith("java/") || calls.containsKey(next));
                follow(next);
            }
        }
        open.removeLast();
    }
}
