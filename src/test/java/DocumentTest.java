import java.lang.reflect.Method;

/** Each word of "Terms" and of the promises is quoted by a test of its own, so that no sentence is without one. */
public final class DocumentTest {
    private static final Class<?>[] TESTS = {TextEdgesTest.class, CaseEdgesTest.class, AheadEdgesTest.class, ReadEdgesTest.class};

    private DocumentTest() {
    }

    public static void main(String[] args) throws Exception {
        String[] sections = Sayings.sections();
        boolean[][] quoted = new boolean[sections.length][];
        for (int p = 0; p < sections.length; p++) {
            quoted[p] = new boolean[sections[p].length()];
        }
        for (Class<?> tests : TESTS) {
            for (Method test : Sayings.testsOf(tests)) {
                Due.promise(tests.getName() + "." + test.getName());
                Says says = test.getAnnotation(Says.class);
                for (String words : says.value()) {
                    quote(sections[says.promise()], Sayings.plain(words), quoted[says.promise()]);
                }
            }
        }
        for (int p = 0; p < sections.length; p++) {
            Due.promise("promise " + p);
            eachWordIsQuoted(sections[p], quoted[p]);
        }
        Due.end();
    }

    private static void quote(String section, String words, boolean[] quoted) {
        int at = section.indexOf(words);
        Due.is("'" + words + "' stands in the document", at >= 0, true);
        for (int i = at; at >= 0 && i < at + words.length(); i++) {
            quoted[i] = true;
        }
    }

    private static void eachWordIsQuoted(String section, boolean[] quoted) {
        int from = 0;
        for (String word : section.split(" ")) {
            boolean all = true;
            for (int i = from; i < from + word.length(); i++) {
                all = all && quoted[i];
            }
            Due.is("'" + word + "' at " + from + " is quoted by a test", all, true);
            from += word.length() + 1;
        }
    }
}
