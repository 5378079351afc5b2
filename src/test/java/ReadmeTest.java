import java.nio.file.Files;
import java.nio.file.Path;
import java.util.ArrayList;
import java.util.List;
import java.util.Map;
import java.util.TreeMap;
import java.util.regex.Matcher;
import java.util.regex.Pattern;
import javax.tools.ToolProvider;

/** README.md tells the truth: its example answers as it says, and its tables have each call with what it throws. */
public final class ReadmeTest {
    private static final Path README = Path.of("README.md");
    private static final Path SOURCE = Path.of("src/main/java/DregsVerdict.java");

    private ReadmeTest() {
    }

    public static void main(String[] args) throws Exception {
        String readme = Files.readString(README);
        exampleAnswers(javaOf(readme));
        callsAreInTables(readme, Files.readString(SOURCE));
        Due.end();
    }

    private static List<String> javaOf(String readme) {
        List<String> blocks = new ArrayList<>();
        Matcher m = Pattern.compile("(?s)```java\n(.*?)```").matcher(readme);
        while (m.find()) {
            blocks.add(m.group(1));
        }
        return blocks;
    }

    /** The helper and the example become a class, in which each line is compared with what stands behind it. */
    private static void exampleAnswers(List<String> blocks) throws Exception {
        Due.promise("README's example");
        Due.is("how many pieces of Java", blocks.size(), 2);
        StringBuilder code = new StringBuilder("public final class Shown {\n").append(blocks.get(0));
        code.append("public static void shown() {\n");
        int compared = 0;
        for (String line : blocks.get(1).split("\n")) {
            Matcher m = Pattern.compile("^((?:x\\.|tell\\().*\\)); +// (-?\\w+):.*$").matcher(line);
            if (m.find()) {
                compared++;
                code.append(comparison(m.group(1), m.group(2)));
            } else {
                Due.is("'" + line + "' makes the object", line.startsWith("DregsVerdict x = new"), true);
                code.append(line).append("\n");
            }
        }
        Due.is("how many lines are compared", compared, 20);
        run(code.append("}\n}\n").toString());
    }

    private static String comparison(String call, String answer) {
        String name = "\"" + call.replace("\"", "'") + "\", ";
        switch (answer) {
            case "NoSuchElementException": return "Due.missing(" + name + "() -> " + call + ");\n";
            case "IllegalArgumentException": return "Due.unfit(" + name + "() -> " + call + ");\n";
            default: return "Due.is(" + name + call + ", " + answer + ");\n";
        }
    }

    private static void run(String code) throws Exception {
        Path made = Files.createTempDirectory("readme");
        // Due is seen only in its own package and by its own loader, so the class is put beside it.
        Path classes = Path.of(Due.class.getProtectionDomain().getCodeSource().getLocation().toURI());
        Path source = Files.writeString(made.resolve("Shown.java"), code);
        int failed = ToolProvider.getSystemJavaCompiler().run(null, null, null,
            "-cp", classes.toString(), "-d", classes.toString(), source.toString());
        Files.delete(source);
        Files.delete(made);
        Due.is("what javac answers", failed, 0);
        if (failed == 0) {
            Class.forName("Shown").getMethod("shown").invoke(null);
        }
    }

    private static void callsAreInTables(String readme, String source) {
        Due.promise("README's tables");
        Map<String, String> thrown = new TreeMap<>();
        Matcher rows = Pattern.compile("(?m)^\\| `(\\w+\\([^)]*\\))` \\|.*\\| *([^|]*?) *\\|$").matcher(readme);
        while (rows.find()) {
            Due.is(rows.group(1) + " has one row", thrown.put(rows.group(1), rows.group(2)) == null, true);
        }
        int calls = 0;
        Matcher heads = Pattern.compile("(?m)^    public \\w+ (\\w+)\\(([^)]*)\\)([^{]*)\\{$").matcher(source);
        while (heads.find()) {
            calls++;
            String call = heads.group(1) + "(" + heads.group(2).replaceAll("int (\\w+)", "$1") + ")";
            String due = heads.group(3).replace("throws", "").replace("NoSuchElementException", "N")
                .replace("IllegalArgumentException", "I").trim();
            Due.is(call + " throws " + due + ", README says " + thrown.get(call), due.equals(thrown.get(call)), true);
        }
        Due.is("how many calls", calls, 43);
        Due.is("how many rows", thrown.size(), 43);
    }
}
