import java.lang.reflect.Constructor;
import java.lang.reflect.Field;
import java.lang.reflect.Method;
import java.lang.reflect.Modifier;
import java.nio.file.Files;
import java.nio.file.Path;
import java.util.Arrays;
import java.util.HashSet;
import java.util.Set;
import java.util.TreeSet;
import java.util.regex.Matcher;
import java.util.regex.Pattern;

/** The rules of LANGUAGE.md that a program can look at: the face by reflection, the rest by the text. */
public final class FormTest {
    private static final Checks CHECKS = new Checks();
    private static final String SOURCE = "src/main/java/BreadBox.java";
    private static final String[] FACE = {
        "int join(int, int)", "int pay(int, int)", "int rule(int, int, int)", "int paper(int, int, int)",
        "boolean back(int)", "int week()", "boolean table(int, int, int)", "int force(int, int, int)",
        "int grant(int, int, int)", "int day(int, int, int)", "int arrears(int, int, int)",
        "boolean out(int, int, int)", "int what(int, int, int, int, int)", "int booked(int, int)",
        "int entry(int, int)", "long worth(int, int, int)", "int lodge(int, int)", "int member(int, int)",
        "int told(int, int)", "int count(int)"};
    private static final String[] UNWANTED = {
        "\\bthrow\\b", "\\bthrows\\b", "\\btry\\b", "\\bcatch\\b", "\\bsynchronized\\b", "\\bassert\\b", "->", "::",
        "\\w+Exact\\b", "\\bequals\\b", "\\bhashCode\\b", "\\btoString\\b", "\\bSystem\\.(?!arraycopy)", "\\bThread\\b",
        "\\bRandom\\b", "\\bvar\\b", "\\bnative\\b", "\\bpackage\\b"};

    public static void main(String[] args) throws Exception {
        face();
        for (Class<?> own : ownClasses()) {
            formOf(own);
        }
        text(Files.readString(Path.of(SOURCE)));
        CHECKS.end("FormTest");
    }

    private static Set<Class<?>> ownClasses() {
        Set<Class<?>> all = new HashSet<>(Arrays.asList(BreadBox.class.getDeclaredClasses()));
        all.add(BreadBox.class);
        return all;
    }

    private static void face() {
        int flags = BreadBox.class.getModifiers();
        CHECKS.yes("1: public and final", Modifier.isPublic(flags) && Modifier.isFinal(flags));
        Set<String> found = new TreeSet<>();
        for (Method m : BreadBox.class.getDeclaredMethods()) {
            if (!Modifier.isPrivate(m.getModifiers())) {
                String parameters = Arrays.toString(m.getParameterTypes()).replace('[', '(').replace(']', ')');
                found.add(m.getReturnType() + " " + m.getName() + parameters);
                CHECKS.yes("1: public " + m, Modifier.isPublic(m.getModifiers()));
            }
        }
        CHECKS.yes("1: the face: " + found, found.equals(new TreeSet<>(Arrays.asList(FACE))));
        for (Field f : BreadBox.class.getDeclaredFields()) {
            CHECKS.yes("1: field " + f, Modifier.isPrivate(f.getModifiers()) || f.getName().equals("NONE"));
        }
        Constructor<?>[] made = BreadBox.class.getDeclaredConstructors();
        CHECKS.due("1: constructors", made.length, 1);
        CHECKS.yes("1: constructor", Modifier.isPublic(made[0].getModifiers()) && made[0].getParameterCount() == 0);
    }

    private static void formOf(Class<?> own) {
        if (own != BreadBox.class) {
            CHECKS.yes("1: static " + own, Modifier.isStatic(own.getModifiers()));
        }
        Set<String> publicNames = new HashSet<>();
        for (String m : FACE) {
            publicNames.add(m.substring(m.indexOf(' ') + 1, m.indexOf('(')));
        }
        for (Method m : own.getDeclaredMethods()) {
            CHECKS.yes("11: parameters of " + m, m.getParameterCount() <= 7);
            if (!Modifier.isPublic(m.getModifiers())) {
                CHECKS.no("1: a public one's name " + m, publicNames.contains(m.getName()));
            }
        }
        int fields = 0;
        for (Field f : own.getDeclaredFields()) {
            if (Modifier.isStatic(f.getModifiers())) {
                CHECKS.yes("5: final " + f, Modifier.isFinal(f.getModifiers()));
            } else {
                fields++;
            }
        }
        CHECKS.yes("11: fields of " + own, fields <= 20);
    }

    private static void text(String source) {
        String code = source.replaceAll("(?s)/\\*.*?\\*/", "").replaceAll("//[^\n]*", "");
        for (String unwanted : UNWANTED) {
            Matcher found = Pattern.compile(unwanted).matcher(code);
            CHECKS.no("6: " + unwanted, found.find());
        }
        Matcher imports = Pattern.compile("import ([^;]+);").matcher(code);
        while (imports.find()) {
            CHECKS.yes("4: " + imports.group(1), imports.group(1).matches("java\\.util\\.(Arrays|ArrayList|List|Iterator)"));
        }
        CHECKS.yes("11: classes", ownClasses().size() <= 12);
        CHECKS.yes("3: signs", code.chars().allMatch(c -> c == '\n' || c >= 32 && c < 127));
        longMethods(source);
    }

    /** A method begins at a line that opens a block behind a parameter list, and ends where its indent closes. */
    private static void longMethods(String source) {
        Pattern head = Pattern.compile("(?m)^( {4}| {8})(?! )[^\n=;]*\\)[^\n;]*\\{$");
        Matcher m = head.matcher(source);
        while (m.find()) {
            int end = source.indexOf("\n" + m.group(1) + "}\n", m.end());
            long lines = source.substring(m.start(), Math.max(end, m.end())).lines().count();
            CHECKS.yes("11: " + lines + " lines: " + m.group().trim(), lines <= 60);
        }
    }
}
