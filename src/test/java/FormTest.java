import java.lang.reflect.Constructor;
import java.lang.reflect.Field;
import java.lang.reflect.Method;
import java.lang.reflect.Modifier;
import java.nio.file.Files;
import java.nio.file.Path;
import java.util.Arrays;
import java.util.HashMap;
import java.util.HashSet;
import java.util.Map;
import java.util.Set;
import java.util.TreeMap;
import java.util.TreeSet;
import java.util.regex.Matcher;
import java.util.regex.Pattern;

/** The rules of LANGUAGE.md that a program can look at: the face by reflection, the rest by the text. */
public final class FormTest {
    private static final Checks CHECKS = new Checks();
    private static final String SOURCE = "src/main/java/BreadBox.java";
    private static final String[] FACE = {
        "int join(int, int)", "int pay(int, int)", "int rule(int, int, int)", "int paper(int, int, int)",
        "boolean back(int)", "int week()", "boolean table(int, int, int)", "int force(int, int, int)",
        "int grant(int, int, int)", "int day(int, int, int)", "int arrears(int, int, int)",
        "boolean out(int, int, int)", "int what(int, int, int, int, int)", "int booked(int, int)",
        "int entry(int, int)", "long worth(int, int, int)", "int lodge(int, int)", "int member(int, int)",
        "int told(int, int)", "int count(int)"};
    private static final String[] UNWANTED = {
        "\\bthrow\\b", "\\bthrows\\b", "\\btry\\b", "\\bcatch\\b", "\\bsynchronized\\b", "\\bassert\\b", "->", "::",
        "\\w+Exact\\b", "\\bequals\\b", "\\bhashCode\\b", "\\btoString\\b", "\\bSystem\\.(?!arraycopy)", "\\bThread\\b",
        "\\bRandom\\b", "\\bvar\\b", "\\bnative\\b", "\\bpackage\\b", "\\bstatic \\{",
        "\\[\\]\\[\\]\\["};
    /** The static functions of the library that rule 4 leaves and the class may need. */
    private static final String LIBRARY =
        "(Math|Integer|Long)\\.(compare|max|min|abs|signum|bitCount|floorDiv|floorMod)|"
        + "Arrays\\.(copyOf|copyOfRange|fill)|System\\.arraycopy";
    private static final int DEEPEST = 8;

    public static void main(String[] args) throws Exception {
        face();
        for (Class<?> own : ownClasses()) {
            formOf(own);
        }
        text(Files.readString(Path.of(SOURCE)));
        CHECKS.end("FormTest");
    }

    private static Set<Class<?>> ownClasses() {
        Set<Class<?>> all = new HashSet<>(Arrays.asList(BreadBox.class.getDeclaredClasses()));
        all.add(BreadBox.class);
        return all;
    }

    private static void face() {
        int flags = BreadBox.class.getModifiers();
        CHECKS.yes("1: public and final", Modifier.isPublic(flags) && Modifier.isFinal(flags));
        Set<String> found = new TreeSet<>();
        for (Method m : BreadBox.class.getDeclaredMethods()) {
            if (!Modifier.isPrivate(m.getModifiers())) {
                String parameters = Arrays.toString(m.getParameterTypes()).replace('[', '(').replace(']', ')');
                found.add(m.getReturnType() + " " + m.getName() + parameters);
                CHECKS.yes("1: public " + m, Modifier.isPublic(m.getModifiers()));
            }
        }
        CHECKS.yes("1: the face: " + found, found.equals(new TreeSet<>(Arrays.asList(FACE))));
        for (Field f : BreadBox.class.getDeclaredFields()) {
            CHECKS.yes("1: field " + f, Modifier.isPrivate(f.getModifiers()) || f.getName().equals("NONE"));
        }
        Constructor<?>[] made = BreadBox.class.getDeclaredConstructors();
        CHECKS.due("1: constructors", made.length, 1);
        CHECKS.yes("1: constructor", Modifier.isPublic(made[0].getModifiers()) && made[0].getParameterCount() == 0);
    }

    private static void formOf(Class<?> own) {
        if (own != BreadBox.class) {
            CHECKS.yes("1: static " + own, Modifier.isStatic(own.getModifiers()));
        }
        Set<String> publicNames = new HashSet<>();
        for (String m : FACE) {
            publicNames.add(m.substring(m.indexOf(' ') + 1, m.indexOf('(')));
        }
        for (Method m : own.getDeclaredMethods()) {
            CHECKS.yes("11: parameters of " + m, m.getParameterCount() <= 7);
            if (!Modifier.isPublic(m.getModifiers())) {
                CHECKS.no("1: a public one's name " + m, publicNames.contains(m.getName()));
            }
        }
        int fields = 0;
        for (Field f : own.getDeclaredFields()) {
            if (Modifier.isStatic(f.getModifiers())) {
                CHECKS.yes("5: final " + f, Modifier.isFinal(f.getModifiers()));
            } else {
                fields++;
            }
        }
        CHECKS.yes("11: fields of " + own, fields <= 20);
    }

    private static void text(String source) {
        String code = source.replaceAll("(?s)/\\*.*?\\*/", "").replaceAll("//[^\n]*", "");
        for (String unwanted : UNWANTED) {
            Matcher found = Pattern.compile(unwanted).matcher(code);
            CHECKS.no("6: " + unwanted, found.find());
        }
        Matcher imports = Pattern.compile("import ([^;]+);").matcher(code);
        while (imports.find()) {
            CHECKS.yes("4: " + imports.group(1), imports.group(1).matches("java\\.util\\.(Arrays|ArrayList|List|Iterator)"));
        }
        library(code);
        CHECKS.yes("11: classes", ownClasses().size() <= 12);
        CHECKS.yes("3: signs", code.chars().allMatch(c -> c == '\n' || c >= 32 && c < 127));
        Map<String, String> bodies = methods(code);
        for (Map.Entry<String, String> method : bodies.entrySet()) {
            long lines = method.getValue().lines().count();
            CHECKS.yes("11: " + lines + " lines: " + method.getKey(), lines <= 60);
        }
        Map<String, Integer> depths = new HashMap<>();
        for (String name : bodies.keySet()) {
            int depth = depthOf(name, bodies, depths);
            CHECKS.yes("8, 11: " + name + " goes " + depth + " deep", depth <= DEEPEST);
        }
    }

    private static void library(String code) {
        Set<String> own = new HashSet<>();
        for (Class<?> c : ownClasses()) {
            own.add(c.getSimpleName());
        }
        Matcher calls = Pattern.compile("\\b([A-Z]\\w*)\\.(\\w+)\\(").matcher(code);
        while (calls.find()) {
            String call = calls.group(1) + "." + calls.group(2);
            CHECKS.yes("4: " + call, own.contains(calls.group(1)) || call.matches(LIBRARY));
        }
    }

    /**
     * All methods and constructors by name, those of one name together. One begins at a line that opens a block behind
     * a parameter list, and ends where its indent closes.
     */
    private static Map<String, String> methods(String code) {
        Pattern head = Pattern.compile("(?m)^( {4}| {8})(?! )[^\n=;(]*?(\\w+)\\([^\n;]*\\)[^\n;]*\\{$");
        Map<String, String> bodies = new TreeMap<>();
        Matcher m = head.matcher(code);
        while (m.find()) {
            if (!m.group(2).matches("if|for|while|switch")) {
                int end = code.indexOf("\n" + m.group(1) + "}\n", m.end());
                bodies.merge(m.group(2), code.substring(m.end(), Math.max(end, m.end())), String::concat);
            }
        }
        CHECKS.yes("methods are found: " + bodies.keySet(), bodies.size() > FACE.length);
        return bodies;
    }

    /** How many calls stand open at once, the library's among them; far too many where one comes back to itself. */
    private static int depthOf(String name, Map<String, String> bodies, Map<String, Integer> depths) {
        if (depths.containsKey(name)) {
            return depths.get(name);
        }
        depths.put(name, 1000);
        int deepest = 0;
        Matcher calls = Pattern.compile("\\b(\\w+)\\(").matcher(bodies.getOrDefault(name, ""));
        while (calls.find()) {
            if (!calls.group(1).matches("if|for|while|switch")) {
                deepest = Math.max(deepest, depthOf(calls.group(1), bodies, depths));
            }
        }
        depths.put(name, deepest + 1);
        return deepest + 1;
    }
}
