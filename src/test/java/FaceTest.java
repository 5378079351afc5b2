import java.lang.reflect.Constructor;
import java.lang.reflect.Field;
import java.lang.reflect.Member;
import java.lang.reflect.Method;
import java.lang.reflect.Modifier;
import java.nio.file.Files;
import java.nio.file.Path;
import java.util.ArrayList;
import java.util.Collections;
import java.util.List;
import java.util.Set;
import java.util.TreeSet;
import java.util.regex.Matcher;
import java.util.regex.Pattern;

/** The public face is the document's, word for word, and the file keeps to those rules of LANGUAGE.md that a text search can see. */
public final class FaceTest {
    private static final Path SOURCE = Path.of("src/main/java/DregsVerdict.java");
    private static final Path DOCUMENT = Path.of("../shared/DOC.md");

    private FaceTest() {
    }

    public static void main(String[] args) throws Exception {
        faceIsTheDocuments();
        nothingElseIsSeen();
        namesAreNotUsedTwice();
        sourceHasNothingForbidden();
        nothingIsCaught();
        methodsAreShort();
        Due.end();
    }

    private static void yes(String what, boolean so) {
        Due.is(what, so, true);
    }

    private static void faceIsTheDocuments() throws Exception {
        Due.promise("face");
        String document = Files.readString(DOCUMENT);
        String face = document.substring(document.indexOf("public final class"), document.indexOf("## Terms"));
        List<String> want = new ArrayList<>();
        Matcher m = Pattern.compile("public (\\w+) (\\w+)\\(([^)]*)\\)([^;]*);").matcher(face);
        while (m.find()) {
            String types = m.group(3).replaceAll("(\\w+) \\w+", "$1").replace(", ", ",");
            String thrown = m.group(4).replace(" throws ", "").replace(", ", ",");
            want.add(m.group(1) + " " + m.group(2) + "(" + types + ") " + thrown);
        }
        List<String> got = new ArrayList<>();
        for (Method method : DregsVerdict.class.getDeclaredMethods()) {
            if (Modifier.isPublic(method.getModifiers())) {
                got.add(method.getReturnType().getSimpleName() + " " + method.getName() + "("
                    + names(method.getParameterTypes()) + ") " + names(method.getExceptionTypes()));
            }
        }
        Collections.sort(want);
        Collections.sort(got);
        Due.is("how many methods", got.size(), 43);
        yes("methods " + got + " are those of the document " + want, got.equals(want));
        yes("public and final", Modifier.isPublic(DregsVerdict.class.getModifiers())
            && Modifier.isFinal(DregsVerdict.class.getModifiers()));
        Due.is("NONE", DregsVerdict.NONE, -1);
    }

    private static String names(Class<?>[] types) {
        List<String> names = new ArrayList<>();
        for (Class<?> type : types) {
            names.add(type.getSimpleName());
        }
        return String.join(",", names);
    }

    private static void nothingElseIsSeen() {
        Due.promise("rule 1");
        for (Field field : DregsVerdict.class.getDeclaredFields()) {
            yes("field " + field.getName(), isPrivate(field) || field.getName().equals("NONE"));
        }
        for (Method method : DregsVerdict.class.getDeclaredMethods()) {
            yes("method " + method.getName(), isPrivate(method) || Modifier.isPublic(method.getModifiers())
                || method.isSynthetic());
        }
        Constructor<?>[] made = DregsVerdict.class.getDeclaredConstructors();
        yes("one public constructor", made.length == 1 && Modifier.isPublic(made[0].getModifiers()));
        for (Class<?> inside : DregsVerdict.class.getDeclaredClasses()) {
            yes("class " + inside.getName(), Modifier.isStatic(inside.getModifiers())
                && !Modifier.isPublic(inside.getModifiers()));
            Due.is("many fields in " + inside.getName(), varying(inside) <= 20, true);
        }
        yes("few classes", DregsVerdict.class.getDeclaredClasses().length <= 11);
        yes("many fields", varying(DregsVerdict.class) <= 20);
    }

    private static boolean isPrivate(Member member) {
        return Modifier.isPrivate(member.getModifiers());
    }

    private static int varying(Class<?> of) {
        int many = 0;
        for (Field field : of.getDeclaredFields()) {
            boolean isStatic = Modifier.isStatic(field.getModifiers());
            yes("static " + field.getName() + " is final", !isStatic || Modifier.isFinal(field.getModifiers()));
            many += isStatic ? 0 : 1;
        }
        return many;
    }

    private static void namesAreNotUsedTwice() {
        Set<String> open = new TreeSet<>();
        List<Method> own = new ArrayList<>();
        for (Method method : DregsVerdict.class.getDeclaredMethods()) {
            if (Modifier.isPublic(method.getModifiers())) {
                open.add(method.getName());
            } else {
                own.add(method);
            }
        }
        for (Class<?> inside : DregsVerdict.class.getDeclaredClasses()) {
            own.addAll(List.of(inside.getDeclaredMethods()));
        }
        for (Method method : own) {
            yes(method.getName() + " is no public name", !open.contains(method.getName()));
            yes(method.getName() + " has few parameters", method.getParameterCount() <= 7);
        }
    }

    private static void sourceHasNothingForbidden() throws Exception {
        Due.promise("rules 2 to 13");
        String code = Files.readString(SOURCE).replaceAll("(?s)/\\*.*?\\*/", "").replaceAll("//[^\n]*", "");
        String[] never = {"->", "::", "static \\{", "\\bfinally\\b", "\\bsynchronized\\b", "\\bassert\\b", "\\bvar\\b",
            "Exact\\b", "\\bSystem\\.(?!arraycopy)", "\\bpackage\\b", "\\bThread\\b", "\\bhashCode\\b", "\\btoString\\b",
            "\\bprotected\\b", "\\bdouble\\b", "\\bfloat\\b", "\\bObject\\b", "while \\(true\\)", "for \\(;;\\)"};
        for (String word : never) {
            yes("without " + word, !Pattern.compile(word).matcher(code).find());
        }
        Matcher imports = Pattern.compile("import ([^;]*);").matcher(code);
        while (imports.find()) {
            Due.is("import " + imports.group(1), imports.group(1).equals("java.util.NoSuchElementException"), true);
        }
        yes("signs 1 to 127 alone", code.chars().allMatch(c -> c >= 1 && c <= 127));
        Matcher made = Pattern.compile("new (\\w+)").matcher(code);
        while (made.find()) {
            yes("new " + made.group(1), Set.of("int", "boolean", "Court", "Cup", "Docket", "Reckoner", "Clerk",
                "NoSuchElementException", "IllegalArgumentException").contains(made.group(1)));
        }
    }

    private static void nothingIsCaught() throws Exception {
        Due.promise("rule 7");
        yes("no try", !Pattern.compile("\\b(try|catch)\\b").matcher(Files.readString(SOURCE)).find());
    }

    private static void methodsAreShort() throws Exception {
        Due.promise("rule 11");
        List<String> lines = Files.readAllLines(SOURCE);
        for (int from = 0; from < lines.size(); from++) {
            Matcher head = Pattern.compile("^( +)[^ ].*\\) .*\\{$").matcher(lines.get(from));
            if (head.find()) {
                int to = from;
                while (!lines.get(to).equals(head.group(1) + "}") && !lines.get(to).startsWith(head.group(1) + "} else")) {
                    to++;
                }
                yes("line " + (from + 1) + " begins something of at most 60 lines", to - from <= 60);
            }
        }
    }
}
