import java.io.IOException;
import java.lang.reflect.Constructor;
import java.lang.reflect.Field;
import java.lang.reflect.Method;
import java.lang.reflect.Modifier;
import java.nio.file.Files;
import java.nio.file.Path;
import java.util.Arrays;
import java.util.HashSet;
import java.util.List;
import java.util.Set;
import java.util.TreeSet;
import java.util.regex.Matcher;
import java.util.regex.Pattern;

/** The source and the compiled class against those rules of LANGUAGE.md that a program can look at. */
public final class LanguageTest {
    private static final Checks c = new Checks("LanguageTest");
    private static final Path SOURCE = Path.of("src/main/java/VillagePay.java");
    private static final List<String> FACE = List.of("int village(int,int,int)", "boolean weather(int,int)",
        "boolean squeeze(int,int)", "int days(int)", "int come(int,int)", "int about(int,int)", "int officer(int,int)",
        "boolean dies(int)", "int give(int,int,int)", "int raise(int,int,int)", "int order(int,int)",
        "int holder(int,int,int)", "int rank(int,int,int)", "int had(int,int,int)", "int feed(int,int,int,int,int)",
        "int end(int)", "int reign(int)", "int fault(int)", "int scale(int,int,int,int)", "int due(int,int,int)",
        "int balance(int,int,int)", "int fit(int,int)", "int near(int)", "int deal(int,boolean)",
        "int dealt(int,boolean,int)", "int move(int,int)", "void stay()", "int idle()", "int moved(int)",
        "int say(int,int,int,int)", "int trust(int,int)", "int weighed(int,int,int)", "boolean famine(int,int,int)",
        "int tried(int,int,int,int,int)", "int count(int)", "boolean image(int)", "boolean again(int)");

    public static void main(String[] args) throws IOException {
        face();
        classesInside();
        words(Files.readString(SOURCE));
        methods(Files.readString(SOURCE));
        c.finish();
    }

    private static String signature(Method m) {
        StringBuilder s = new StringBuilder(m.getReturnType().getSimpleName()).append(' ').append(m.getName()).append('(');
        for (int i = 0; i < m.getParameterCount(); i++) {
            s.append(i == 0 ? "" : ",").append(m.getParameterTypes()[i].getSimpleName());
        }
        return s.append(')').toString();
    }

    private static void face() {
        Class<?> it = VillagePay.class;
        c.is("public and final", it.getModifiers(), Modifier.PUBLIC | Modifier.FINAL);
        Set<String> seen = new TreeSet<>();
        for (Method m : it.getDeclaredMethods()) {
            if (Modifier.isPublic(m.getModifiers()) && !Modifier.isStatic(m.getModifiers())) {
                seen.add(signature(m));
            } else {
                c.yes(m.getName() + " is private", Modifier.isPrivate(m.getModifiers()));
            }
        }
        Set<String> due = new TreeSet<>(FACE);
        c.yes("the methods are " + seen + ", due are " + due, seen.equals(due));
        Constructor<?>[] made = it.getDeclaredConstructors();
        c.is("constructors", made.length, 1);
        c.yes("a public one without parameters", Modifier.isPublic(made[0].getModifiers()) && made[0].getParameterCount() == 0);
        for (Field f : it.getDeclaredFields()) {
            c.is(f.getName() + " is NONE or private", Modifier.isPrivate(f.getModifiers()), !f.getName().equals("NONE"));
        }
    }

    private static void classesInside() {
        Set<String> names = new HashSet<>();
        for (String s : FACE) {
            names.add(s.substring(s.indexOf(' ') + 1, s.indexOf('(')));
        }
        Class<?>[] inside = VillagePay.class.getDeclaredClasses();
        c.yes("at most twelve classes", inside.length + 1 <= 12);
        for (Class<?> it : inside) {
            c.yes(it + " is static", Modifier.isStatic(it.getModifiers()));
            c.no(it + " is public or protected", Modifier.isPublic(it.getModifiers()) || Modifier.isProtected(it.getModifiers()));
            for (Method m : it.getDeclaredMethods()) {
                c.no(it + " has a method of the face's name: " + m.getName(), names.contains(m.getName()));
            }
            c.is(it + " has classes of its own", it.getDeclaredClasses().length, 0);
        }
        for (Class<?> it : all()) {
            int fields = 0;
            for (Field f : it.getDeclaredFields()) {
                boolean isStatic = Modifier.isStatic(f.getModifiers());
                fields += isStatic ? 0 : 1;
                c.yes(f + " is final, if it is static", !isStatic || Modifier.isFinal(f.getModifiers()));
            }
            c.yes(it + " has at most twenty fields", fields <= 20);
            for (Method m : it.getDeclaredMethods()) {
                c.yes(m + " has at most seven parameters", m.getParameterCount() <= 7);
            }
        }
    }

    private static Class<?>[] all() {
        Class<?>[] inside = VillagePay.class.getDeclaredClasses();
        Class<?>[] all = Arrays.copyOf(inside, inside.length + 1);
        all[inside.length] = VillagePay.class;
        return all;
    }

    private static String withoutComments(String source) {
        return source.replaceAll("(?s)/\\*.*?\\*/", "").replaceAll("//[^\\n]*", "").replaceAll("\"[^\"\\n]*\"", "\"\"");
    }

    private static void words(String source) {
        for (int i = 0; i < source.length(); i++) {
            if (source.charAt(i) > 127) {
                c.is("sign at " + i, source.charAt(i), 127);
            }
        }
        String code = withoutComments(source);
        String[] forbidden = {"throw", "throws", "try", "catch", "finally", "synchronized", "assert", "volatile", "package",
            "protected", "native", "hashCode", "toString", "Object", "Exception", "Error", "System\\.out", "Random",
            "Thread", "Exact", "var", "yield", "record", "double", "float", "goto"};
        for (String word : forbidden) {
            c.no("the source has " + word, Pattern.compile("\\b" + word + "\\b").matcher(code).find());
        }
        c.no("a lambda", code.contains("->"));
        c.no("a method reference", code.contains("::"));
        c.no("texts joined by +", Pattern.compile("\"\\s*\\+|\\+\\s*\"").matcher(code).find());
        Matcher imports = Pattern.compile("import\\s+([^;]+);").matcher(code);
        while (imports.find()) {
            c.yes("import of " + imports.group(1), List.of("java.util.Arrays", "java.util.ArrayList", "java.util.List")
                .contains(imports.group(1)));
        }
        Matcher library = Pattern.compile("\\b(System|Arrays|Math|Integer|Long)\\.(\\w+)").matcher(code);
        Set<String> known = Set.of("System.arraycopy", "Arrays.fill", "Arrays.copyOf", "Arrays.copyOfRange", "Math.abs",
            "Math.max", "Math.min", "Integer.bitCount");
        while (library.find()) {
            c.yes(library.group() + " of the library", known.contains(library.group()));
        }
    }

    /** A method begins with a line that ends in ') {' at the depth of a class's members. */
    private static void methods(String source) {
        String[] lines = source.split("\n");
        for (int i = 0; i < lines.length; i++) {
            String head = lines[i].replaceAll("^( *).*", "$1");
            boolean member = head.length() == 4 || head.length() == 8;
            if (member && lines[i].endsWith(") {") && !lines[i].matches(" *(if|for|while|switch|}).*")) {
                int end = i + 1;
                while (end < lines.length && !lines[end].equals(head + "}")) {
                    end++;
                }
                c.yes("a short method at line " + (i + 1), end - i < 60);
            }
        }
    }
}
