import java.lang.reflect.InvocationTargetException;
import java.lang.reflect.Method;
import java.nio.file.Files;
import java.nio.file.Path;
import java.util.ArrayList;
import java.util.Comparator;
import java.util.List;

/** Runs the tests of a class that bear a Says, and holds the document's sections that they quote. */
final class Sayings {
    static final int PROMISES = 44;

    private static final Path DOCUMENT = Path.of("../shared/DOC.md");

    private Sayings() {
    }

    static List<Method> testsOf(Class<?> tests) {
        List<Method> found = new ArrayList<>();
        for (Method method : tests.getDeclaredMethods()) {
            if (method.isAnnotationPresent(Says.class)) {
                found.add(method);
            }
        }
        found.sort(Comparator.comparingInt((Method m) -> m.getAnnotation(Says.class).promise())
            .thenComparing(Method::getName));
        return found;
    }

    static void run(Class<?> tests) throws Exception {
        for (Method test : testsOf(tests)) {
            Due.promise(test.getAnnotation(Says.class).promise() + " " + test.getName());
            test.setAccessible(true);
            try {
                test.invoke(null);
            } catch (InvocationTargetException e) {
                throw new IllegalStateException(test.getName(), e.getCause());
            }
        }
        Due.end();
    }

    /** The words of "Terms", and how long an object is used (0), and of each promise behind its call's head. */
    static String[] sections() throws Exception {
        String document = Files.readString(DOCUMENT);
        String[] sections = new String[PROMISES + 1];
        sections[0] = between(document, "==== 1.\n", "## The public face") + between(document, "## Terms\n", "The constants:");
        for (int p = 1; p <= PROMISES; p++) {
            String section = between(document, "## Promise " + p + ":", "\n## ");
            sections[p] = section.substring(section.indexOf("`: ") + 3);
        }
        for (int p = 0; p <= PROMISES; p++) {
            sections[p] = plain(sections[p].replace("```text", " ").replace("```", " ").replaceAll("==== \\d\\.", " "));
        }
        return sections;
    }

    static String plain(String words) {
        return words.replaceAll("\\s+", " ").trim();
    }

    private static String between(String document, String head, String end) {
        int from = document.indexOf(head) + head.length();
        return document.substring(from, document.indexOf(end, from));
    }
}
