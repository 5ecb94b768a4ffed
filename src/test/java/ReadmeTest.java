import java.lang.reflect.Method;
import java.lang.reflect.Modifier;
import java.nio.file.Files;
import java.nio.file.Path;
import java.util.ArrayList;
import java.util.List;
import java.util.Set;
import java.util.TreeSet;
import java.util.regex.Matcher;
import java.util.regex.Pattern;

/** Makes the calls that README.md shows, in its order, and looks for the answers that it gives. */
public final class ReadmeTest {
    private static final Checks CHECKS = new Checks();
    private static final String README = "README.md";
    private static final String TESTS = "src/test/java";
    private static final String NEW_BOX = "BreadBox box = new BreadBox();";
    private static final Pattern CALL = Pattern.compile("box\\.(\\w+)\\(([-0-9, ]*)\\); +// (-?\\d+|true|false): .+");
    private static final int MOST_CALLS = 512;

    private static BreadBox box;
    private static int calls;

    public static void main(String[] args) throws Exception {
        String page = Files.readString(Path.of(README));
        Set<String> shown = new TreeSet<>();
        for (String line : shownLines(page)) {
            make(line, shown);
        }
        for (Method m : BreadBox.class.getDeclaredMethods()) {
            if (Modifier.isPublic(m.getModifiers())) {
                CHECKS.yes("shown: " + m.getName(), shown.contains(m.getName()));
            }
        }
        tellsHowToTest(page);
        CHECKS.end("ReadmeTest");
    }

    /** The lines of all blocks of Java. */
    private static List<String> shownLines(String page) {
        List<String> lines = new ArrayList<>();
        Matcher block = Pattern.compile("(?s)```java\n(.*?)```").matcher(page);
        while (block.find()) {
            block.group(1).lines().filter(line -> !line.isBlank()).forEach(lines::add);
        }
        CHECKS.no(README + " shows no call", lines.isEmpty());
        return lines;
    }

    private static void make(String line, Set<String> shown) throws Exception {
        if (line.equals(NEW_BOX)) {
            box = new BreadBox();
            calls = 0;
            return;
        }
        Matcher call = CALL.matcher(line);
        boolean understood = call.matches() && box != null;
        CHECKS.yes("a call with its answer: " + line, understood);
        if (understood) {
            calls++;
            CHECKS.yes("not more than 512 calls: " + line, calls <= MOST_CALLS);
            shown.add(call.group(1));
            CHECKS.same(line, String.valueOf(answer(call.group(1), call.group(2))), call.group(3));
        }
    }

    private static Object answer(String name, String list) throws Exception {
        String[] texts = list.isBlank() ? new String[0] : list.split(", ");
        Object[] arguments = new Object[texts.length];
        Class<?>[] types = new Class<?>[texts.length];
        for (int i = 0; i < texts.length; i++) {
            arguments[i] = Integer.valueOf(texts[i]);
            types[i] = int.class;
        }
        return BreadBox.class.getMethod(name, types).invoke(box, arguments);
    }

    private static void tellsHowToTest(String page) throws Exception {
        CHECKS.yes("how the tests are run", page.contains("bash .ci/run"));
        try (var files = Files.list(Path.of(TESTS))) {
            for (Path file : files.toList()) {
                String name = file.getFileName().toString().replace(".java", "");
                CHECKS.yes(README + " names " + name, page.contains("`" + name + "`"));
            }
        }
    }
}
