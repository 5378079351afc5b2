import java.nio.charset.StandardCharsets;
import java.util.NoSuchElementException;

/** What tests share: telling a text to an object, and comparing answers with those that are due. */
final class Due {
    static final int NSEE = -1000001;
    static final int IAE = -1000002;

    private static int wrong;
    private static int checks;
    private static String promise = "";

    private Due() {
    }

    interface Call {
        int answer();
    }

    static void promise(String name) {
        promise = name;
    }

    static void is(String call, int got, int want) {
        checks++;
        if (got != want) {
            wrong++;
            System.out.println(promise + ": " + call + " answered " + shown(got) + ", due is " + shown(want));
        }
    }

    static void is(String call, boolean got, boolean want) {
        is(call, got ? 1 : 0, want ? 1 : 0);
    }

    static void is(String call, Call got, int want) {
        is(call, answerOf(got), want);
    }

    static void missing(String call, Call got) {
        is(call, got, NSEE);
    }

    static void unfit(String call, Call got) {
        is(call, got, IAE);
    }

    interface CallWith {
        int answer(int n);
    }

    /** Numbers that are taken from least to top, and beyond them an answer (or NSEE, IAE). */
    static void taken(String call, int least, int top, int beyond, CallWith with) {
        for (int n : new int[] {least, top}) {
            int got = answerOf(() -> with.answer(n));
            is(call + " of " + n + " is taken, not " + shown(got), got != beyond, true);
        }
        for (int n : new int[] {least - 1, top + 1, Integer.MIN_VALUE, Integer.MAX_VALUE}) {
            is(call + " of " + n, () -> with.answer(n), beyond);
        }
    }

    /** The answer, or which exception; one that the document does not name goes on and fails the test. */
    static int answerOf(Call call) {
        try {
            return call.answer();
        } catch (NoSuchElementException e) {
            return exactly(e, NoSuchElementException.class, NSEE);
        } catch (IllegalArgumentException e) {
            return exactly(e, IllegalArgumentException.class, IAE);
        }
    }

    private static int exactly(RuntimeException e, Class<?> due, int code) {
        if (e.getClass() != due) {
            throw e;
        }
        return code;
    }

    static int feed(DregsVerdict x, byte[] bytes) {
        int answer = 0;
        for (int from = 0; from < bytes.length; from += 20) {
            int[] n = new int[5];
            for (int i = 0; i < 20; i++) {
                int b = from + i < bytes.length ? bytes[from + i] & 255 : ' ';
                n[i / 4] = n[i / 4] << 8 | b;
            }
            answer = x.feed(n[0], n[1], n[2], n[3], n[4]);
        }
        return answer;
    }

    static int tell(DregsVerdict x, String text) {
        byte[] bytes = text.getBytes(StandardCharsets.ISO_8859_1);
        feed(x, bytes);
        return x.court(bytes.length);
    }

    static DregsVerdict told(String text) {
        DregsVerdict x = new DregsVerdict();
        is("court of '" + text + "'", tell(x, text), 0);
        return x;
    }

    /** A text's FAULT and its place. */
    static void fault(String text, int fault, int place) {
        DregsVerdict x = new DregsVerdict();
        is("court of '" + text + "'", tell(x, text), fault);
        is("fault() of '" + text + "'", x.fault(), place);
        is("texts refused by '" + text + "'", x.count(12), fault == 0 ? 0 : 1);
    }

    private static String shown(int answer) {
        return answer == NSEE ? "NoSuchElementException" : answer == IAE ? "IllegalArgumentException" : "" + answer;
    }

    static void end() {
        System.out.println(wrong == 0 ? checks + " answers are as due" : wrong + " answers are not as due");
        if (wrong != 0) {
            System.exit(1);
        }
    }
}
