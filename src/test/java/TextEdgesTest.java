/** The boundary cases of the tape and of texts: "Terms" up to FAULTS, promises 1 to 4. */
public final class TextEdgesTest {
    private static final int BLANKS = 0x20202020;

    private TextEdgesTest() {
    }

    public static void main(String[] args) throws Exception {
        Sayings.run(TextEdgesTest.class);
    }

    private static int feedBlanks(DregsVerdict x) {
        return x.feed(BLANKS, BLANKS, BLANKS, BLANKS, BLANKS);
    }

    /** The text at the end of so many bytes. */
    private static String atTheEnd(String text, int bytes) {
        return " ".repeat(bytes - text.length()) + text;
    }

    /** What an EXPR gives, if that is 0 to 99; it is drunk by judge 0, whose THIRST is 3, in SEAT 0 of 2. */
    private static int worth(String expr) {
        return Due.told("judge 3 6 0;judge 0 6 0;pot 99;drinks " + expr + ";").drunk(0, 1);
    }

    // ---- promises 1 to 4

    @Says(promise = 1, value = "No LEAVES, no JUDGES.")
    private static void nothingIsThere() {
        DregsVerdict x = new DregsVerdict();
        int[] want = {0, 0, 0, 60, -1, 0, 0, 0, 12, 0, 0, 0, 0, 0, 0};
        for (int what = 0; what < want.length; what++) {
            Due.is("count(" + what + ")", x.count(what), want[what]);
        }
        Due.missing("leaf(0, 0)", () -> x.leaf(0, 0));
        Due.missing("judge(0, 0)", () -> x.judge(0, 0));
        Due.missing("seat(0)", () -> x.seat(0));
        for (int place = 0; place < 12; place++) {
            Due.is("heap(" + place + ")", x.heap(place), 0);
            Due.is("weight(" + place + ")", x.weight(place), 0);
        }
        Due.is("fault()", x.fault(), -1);
        Due.is("undo()", x.undo(), -1);
        Due.is("restore()", x.restore(), false);
        Due.is("rules that are not told", x.verdict(1, 0), 0);
    }

    @Says(promise = 2, value = "Twenty bytes come behind the tape, of each number the highest first: how many it has;")
    private static void eachByteHasItsPlace() {
        // A byte that is no TOKEN among blanks: its place is where the FAULT is.
        for (int place = 0; place < 20; place++) {
            int[] n = {BLANKS, BLANKS, BLANKS, BLANKS, BLANKS};
            int shift = 24 - 8 * (place % 4);
            n[place / 4] = BLANKS & ~(255 << shift) | 255 << shift;
            DregsVerdict x = new DregsVerdict();
            Due.is("the first feed", feedBlanks(x), 20);
            Due.is("the second feed", x.feed(n[0], n[1], n[2], n[3], n[4]), 40);
            Due.is("count(11)", x.count(11), 40);
            Due.is("court(40)", x.court(40), 1);
            Due.is("behind the tape", x.fault(), 20 + place);
        }
        DregsVerdict x = new DregsVerdict();
        Due.is("bytes 0", x.feed(0, 0, 0, 0, 0), 20);
        Due.is("bytes 255", x.feed(-1, -1, -1, -1, -1), 40);
        Due.is("bytes 128 and 127", x.feed(Integer.MIN_VALUE, Integer.MAX_VALUE, 0, 0, 0), 60);
    }

    @Says(promise = 2, value = "NONE, and none come, if it would have more than 700.")
    private static void theTapeIsFull() {
        DregsVerdict x = new DregsVerdict();
        for (int i = 1; i <= 34; i++) {
            Due.is("feed", feedBlanks(x), 20 * i);
        }
        // "pot 7;" at the very end of what there is room for.
        Due.is("the 35th feed", x.feed(BLANKS, BLANKS, BLANKS, 0x2020706f, 0x7420373b), 700);
        Due.is("the 36th feed", x.feed(-1, -1, -1, -1, -1), -1);
        Due.is("once more", x.feed(-1, -1, -1, -1, -1), -1);
        Due.is("none come", x.count(11), 700);
        Due.unfit("court(701)", () -> x.court(701));
        Due.is("court(700)", x.court(700), 0);
        Due.is("none came over others", x.count(3), 7);
        Due.is("in no STATUS", x.count(12) + x.count(13) + x.count(14), 0);
        Due.is("there is room again", feedBlanks(x), 20);
        Whole.stays("feed beyond 700", DregsVerdict.NONE, TextEdgesTest::fullTape, y -> y.feed(1, 2, 3, 4, 5));
    }

    private static DregsVerdict fullTape() {
        DregsVerdict x = Whole.busy();
        for (int i = 0; i < 34; i++) {
            feedBlanks(x);
        }
        return x;
    }

    @Says(promise = 3, value = "The tape's first n bytes (it is empty then) are a COURT, all anew: 0,")
    private static void firstBytesAreACourt() {
        DregsVerdict x = new DregsVerdict();
        Due.feed(x, "pot 5;leaf 1 1;     ".getBytes());
        Due.is("court(6)", x.court(6), 0);
        Due.is("the pot", x.count(3), 5);
        Due.is("no leaf", x.count(0), 0);
        Due.is("the tape is empty", x.count(11), 0);
        Due.unfit("what was behind is gone, too", () -> x.court(1));
        Due.is("feed", feedBlanks(x), 20);
        Due.is("court(0)", x.court(0), 0);
        Due.is("the tape is empty", x.count(11), 0);
        Due.is("no text: the pot", x.count(3), 60);
        Due.is("court(0) of an empty tape", x.court(0), 0);
        Due.is("all of the tape", feedBlanks(x), 20);
        Due.is("court(20)", x.court(20), 0);
    }

    @Says(promise = 3, value = "are a COURT, all anew: 0,")
    private static void allIsAnew() {
        DregsVerdict x = Due.told("leaf 1 2;leaf 3 4;judge 5 6 1;judge 7 9 2;pot 9;drinks 1;reads 2;");
        x.cases(3);
        x.change(0, 1);
        x.hand(0, 12);
        x.put(0, 11);
        x.pot(99);
        Due.is("another text", Due.tell(x, "judge 1 7 3;leaf 4 5;judge 2 8 4;"), 0);
        int[] want = {1, 2, 0, 60, -1, 1, 4, 0, 11, 0, 0, 0};
        for (int what = 0; what < want.length; what++) {
            Due.is("count(" + what + ")", x.count(what), want[what]);
        }
        Due.is("the place", x.leaf(0, 0), 4);
        Due.is("the hand", x.judge(0, 1), 7);
        Due.is("the seat", x.seat(0), 0);
        Due.is("THIRST is drunk again", x.drunk(0, 1), 1);
        // 1 times 5, by 5, then 2 times 5, by 5, from 4 on: 7, and 1 LEAF there.
        Due.is("'where' and 'most' are read again", x.verdict(1, 0), 3);
        Due.missing("no second leaf", () -> x.leaf(1, 0));
        // Nothing of the text ahead of the latest one comes back, either.
        Due.is("the same text once more", Due.tell(x, "judge 1 7 3;leaf 4 5;judge 2 8 4;"), 0);
        Due.is("its judges", x.count(1), 2);
        Due.is("its leaves", x.count(0), 1);
        Due.is("its pot", x.count(3), 60);
        Due.is("it drinks THIRST", x.drunk(0, 1), 1);
        Due.is("no leaves", Due.tell(x, "judge 1 7 3;reads where+most+odd;"), 0);
        Due.is("'where' without LEAVES", x.count(6), 0);
        Due.is("'where' without LEAVES", x.verdict(1, 0), 0);
        for (int i = 0; i < 4; i++) {
            Due.is("rules one way", Due.tell(x, "drinks 1+1+1;reads 2+2;judge 0 6 0;judge 0 6 0;"), 0);
            Due.is("DRINKS", x.drunk(0, 1), 3);
            Due.is("READS", x.verdict(1, 0), 4);
            Due.is("a FAULT behind rules", Due.tell(x, "reads 0;drinks 9+9;x"), 1);
            Due.is("rules the other way", Due.tell(x, "reads 3;drinks 5;judge 0 6 0;judge 0 6 0;"), 0);
            Due.is("DRINKS", x.drunk(0, 1), 5);
            Due.is("READS", x.verdict(1, 0), 3);
        }
        for (int i = 0; i < 4; i++) {
            Due.is("a rule as long as a text", Due.tell(x, "reads 1" + "+1".repeat(346) + ";"), 0);
            Due.is("all of it", x.verdict(1, 0), 347 % 5);
        }
    }

    @Says(promise = 3, value = "or the FAULT (all stays, but STATUS).")
    private static void allStaysByAFault() {
        // The busy object's tape begins with "pot ", which ends too soon, as its text with a FAULT did.
        Whole.stays("a text with a FAULT", 0, x -> {
            Due.is("court(4)", x.court(4), 1);
            Due.is("the tape is empty then", x.count(11), 0);
            Due.feed(x, "pot 5;".getBytes());
        });
        DregsVerdict x = Due.told(Whole.TEXT);
        Due.is("a FAULT at the very end", Due.tell(x, "leaf 0 1;judge 1 1 1;pot 1;drinks 1;reads 1;reads"), 5);
        Due.is("its leaves are not taken", x.count(0), 2);
        Due.is("its pot is not taken", x.count(3), 70);
        Due.is("its DRINKS is not taken", x.drunk(0, 1), 7);
        Due.is("a second one", Due.tell(x, "x"), 1);
        Due.is("STATUS", x.count(12), 2);
        Due.is("no other STATUS", x.count(13) + x.count(14), 0);
    }

    @Says(promise = 3, value = "ACTS, what is READ, the image are gone.")
    private static void aNewCourtLeavesNothingBehind() {
        DregsVerdict x = Whole.busy();
        Due.is("acts ahead", x.count(9), 4);
        Due.is("read ahead", x.count(10), 2);
        Due.is("court", x.court(20), 0);
        Due.is("no ACTS", x.count(9), 0);
        Due.is("none to be UNDONE", x.undo(), -1);
        Due.is("nothing READ", x.count(10), 0);
        Due.is("no image", x.restore(), false);
        Due.is("the new pot", x.count(3), 5);
        // STATUS is not among what is gone.
        Due.is("STATUS 0", x.count(12), 1);
        Due.is("STATUS 1", x.count(13), 2);
        Due.is("STATUS 2", x.count(14), 1);
    }

    @Says(promise = 3, value = "IllegalArgumentException: the tape has not so many, n below 0 (nothing changes).")
    private static void theTapeHasNotSoMany() {
        DregsVerdict x = new DregsVerdict();
        Due.taken("court of an empty tape", 0, 0, Due.IAE, x::court);
        for (int n : new int[] {21, -1, Integer.MIN_VALUE, Integer.MAX_VALUE}) {
            Whole.stays("court(" + n + ")", DregsVerdict.NONE, y -> Due.unfit("court(" + n + ")", () -> y.court(n)));
        }
        Due.is("just so many", Whole.busy().court(20), 0);
    }

    @Says(promise = 4, value = "The place of the latest court()'s FAULT; NONE without.")
    private static void placeOfTheFault() {
        DregsVerdict x = new DregsVerdict();
        Due.is("no court() yet", x.fault(), -1);
        Due.tell(x, "x");
        Due.is("the first byte", x.fault(), 0);
        Due.tell(x, atTheEnd("!", 700));
        Due.is("the last byte there can be", x.fault(), 699);
        Due.unfit("court(1)", () -> x.court(1));
        Due.is("a call that throws is none", x.fault(), 699);
        Due.tell(x, atTheEnd("pot", 700));
        Due.is("the text's length", x.fault(), 700);
        Due.tell(x, "pot 1;");
        Due.is("a text without", x.fault(), -1);
        Due.tell(x, "pot 1;pot");
        Due.is("with one again", x.fault(), 6);
    }

    // ---- what there is

    @Says("PLACES 0 to 11, in a ring (behind 11 comes 0).")
    private static void placesAreARing() {
        Due.fault("leaf 0 1;leaf 11 1;", 0, -1);
        Due.fault("leaf 12 1;", 2, 5);
        Due.fault("leaf 9999 1;", 2, 5);
        DregsVerdict x = Due.told("leaf 11 1;leaf 0 1;judge 0 7 0;judge 0 5 0;judge 0 12 0;judge 0 0 0;");
        Due.is("one on from 11", x.stir(0, 0, 10), 0);
        Due.is("one on from 0", x.stir(0, 1, 10), 1);
        Due.is("one back from 0", x.stir(1, 1, 10), 11);
        Due.is("one back from 11", x.stir(1, 0, 10), 10);
        Due.is("54 on from 11", x.stir(2, 0, 90), 5);
        Due.is("54 back from 0", x.stir(3, 1, 90), 6);
        Due.is("12 on", x.stir(2, 0, 20), 11);
        Due.is("12 back", x.stir(3, 1, 20), 0);
        Due.is("side by side are 11 and 0", x.apart(0, 1), 1);
        Due.is("blown on from 11", Due.told("leaf 11 1;leaf 11 1;barrister 0 6 0;").lies(1, 1), 0);
    }

    @Says("LEAVES 0, 1 .. (at most 8): a PLACE, a WEIGHT (1 to 9).")
    private static void leavesAtMostEight() {
        DregsVerdict x = Due.told("leaf 1 1;leaf 2 2;leaf 3 3;leaf 4 4;leaf 5 5;leaf 6 6;leaf 7 7;leaf 8 9;");
        for (int l = 0; l < 8; l++) {
            Due.is("the place of leaf " + l, x.leaf(l, 0), l + 1);
            Due.is("the weight of leaf " + l, x.leaf(l, 1), l == 7 ? 9 : l + 1);
        }
        Due.is("a fault of the 9th", Due.tell(x, "leaf 1 1;".repeat(9)), 2);
        Due.is("at the 9th", x.fault(), 72);
        Due.fault("leaf 1 0;", 2, 7);
        Due.fault("leaf 1 10;", 2, 7);
        Due.is("none", Due.told("pot 1;").count(0), 0);
    }

    @Says("JUDGES 0, 1 .. (at most 8), at first in SEATS 0, 1 .. by their numbers:")
    private static void judgesAtMostEight() {
        DregsVerdict x = Due.told("judge 1 1 1;barrister 2 2 2;judge 3 3 3;barrister 4 4 4;".repeat(2));
        for (int j = 0; j < 8; j++) {
            Due.is("the thirst of judge " + j, x.judge(j, 0), j % 4 + 1);
            Due.is("the seat of judge " + j, x.judge(j, 3), j);
            Due.is("who is in seat " + j, x.seat(j), j);
        }
        Due.is("a fault of the 9th", Due.tell(x, "judge 1 1 1;".repeat(8) + "barrister 1 1 1;"), 2);
        Due.is("at the 9th", x.fault(), 96);
        Due.is("none", Due.told("pot 1;").count(1), 0);
    }

    @Says("THIRST (0 to 30),")
    private static void thirstUpToThirty() {
        Due.is("0", Due.told("judge 0 6 0;").judge(0, 0), 0);
        Due.is("30", Due.told("judge 30 6 0;").judge(0, 0), 30);
        Due.fault("judge 31 6 0;", 2, 6);
        Due.fault("barrister 31 6 0;", 2, 10);
    }

    @Says("a HAND (0 to 12; 6 less is by how much one stirs, to the left, if it is below 0),")
    private static void handUpToTwelve() {
        Due.is("0", Due.told("judge 0 0 0;").judge(0, 1), 0);
        Due.is("12", Due.told("judge 0 12 0;").judge(0, 1), 12);
        Due.fault("judge 0 13 0;", 2, 8);
        Due.fault("barrister 0 13 0;", 2, 12);
        int[] places = {0, 1, 2, 3, 4, 5, 6, 7, 8, 9, 10, 11, 0};
        for (int hand = 0; hand <= 12; hand++) {
            DregsVerdict x = Due.told("leaf 6 1;judge 0 " + hand + " 0;pot 10;");
            Due.is("by HAND " + hand, x.lies(0, 1), places[hand]);
        }
    }

    @Says("a WISH (a VERDICT, 0 to 4).")
    private static void wishUpToFour() {
        Due.is("0", Due.told("judge 0 6 0;").judge(0, 2), 0);
        Due.is("4", Due.told("judge 0 6 4;").judge(0, 2), 4);
        Due.fault("judge 0 6 5;", 2, 10);
        Due.fault("barrister 0 6 5;", 2, 14);
    }

    @Says("THE POT (0 to 99; 60 without).")
    private static void potUpToNinetyNine() {
        Due.is("0", Due.told("pot 0;").count(3), 0);
        Due.is("99", Due.told("pot 99;").count(3), 99);
        Due.is("without", Due.told("leaf 1 1;").count(3), 60);
        Due.fault("pot 100;", 2, 4);
        Due.fault("pot 9999;", 2, 4);
    }

    @Says("Rules: DRINKS, READS.")
    private static void rulesAreToldOrNot() {
        String judges = "leaf 3 1;judge 4 6 0;judge 0 6 0;pot 50;";
        int[][] want = {{4, 4}, {7, 4}, {4, 2}, {7, 2}};
        String[] rules = {"", "drinks 7;", "reads 2;", "reads 2;drinks 7;"};
        for (int i = 0; i < rules.length; i++) {
            DregsVerdict x = Due.told(judges + rules[i]);
            Due.is("is drunk by '" + rules[i] + "'", x.drunk(0, 1), want[i][0]);
            Due.is("is read by '" + rules[i] + "'", x.verdict(1, 0), want[i][1]);
        }
    }

    // ---- texts and tokens

    @Says("A TEXT of at most 700 bytes tells it.")
    private static void sevenHundredBytes() {
        Due.is("none", Due.told("").count(3), 60);
        Due.is("700", Due.told(atTheEnd("pot 7;", 700)).count(3), 7);
        // A rule that is as long as there is room for: 7 bytes, 346 times 2 and 1.
        String ones = "reads 1" + "+1".repeat(346) + ";";
        Due.is("700 and few blanks", Due.told(ones).verdict(1, 0), 347 % 5);
        DregsVerdict x = new DregsVerdict();
        Due.feed(x, "pot 7;".concat(" ".repeat(694)).getBytes());
        Due.is("no byte more comes", feedBlanks(x), -1);
    }

    @Says("TOKENS: words (a .. z, the longest row),")
    private static void wordsAreTheLongestRow() {
        Due.fault("pot`5;", 1, 3);
        Due.fault("pota5;", 1, 0);
        Due.fault("potz5;", 1, 0);
        Due.fault("pot{5;", 1, 3);
        Due.fault("potA5;", 1, 3);
        Due.fault("Pot 5;", 1, 0);
        Due.fault("POT 5;", 1, 0);
        Due.fault("reads levelmost;", 3, 6);
        Due.fault("reads level most;", 1, 12);
        Due.fault("reads not1;", 0, -1);
        Due.fault("reads notlevel;", 3, 6);
        Due.fault("reads 1or1and1;", 0, -1);
        Due.fault("potpot", 1, 0);
        Due.fault("leaf1 1;judge1 1 1;pot1;reads1;drinks1;", 0, -1);
    }

    @Says("NUMBERS (1 to 4 digits),")
    private static void numbersOfOneToFourDigits() {
        String[] five = {"0", "00", "000", "0000", "5", "05", "005", "0005"};
        for (String number : five) {
            Due.is("pot " + number, Due.told("pot " + number + ";").count(3), number.endsWith("5") ? 5 : 0);
            }
        Due.is("each digit", Due.told("reads 1234+5678+90-7000=2;").verdict(1, 0), 1);
        Due.is("9999", Due.told("reads 9999=101*99;").verdict(1, 0), 1);
        Due.fault("pot 5:", 1, 5);
        Due.fault("pot 5/", 1, 5);
        Due.fault("pot /5", 1, 4);
        Due.fault("pot :5", 1, 4);
        Due.fault("pot 5 5;", 1, 6);
    }

    @Says("signs ; ( ) + - * / < = ;")
    private static void eachSign() {
        Due.is("+", worth("7+2"), 9);
        Due.is("-", worth("7-2"), 5);
        Due.is("*", worth("7*2"), 14);
        Due.is("/", worth("7/2"), 3);
        Due.is("<", worth("2<7"), 1);
        Due.is("=", worth("7=7"), 1);
        Due.is("( )", worth("(7)"), 7);
        // Each byte between two digits of a rule: an operator, a digit, or what can't stand there.
        for (int b = 0; b < 256; b++) {
            boolean digit = b >= '0' && b <= '9';
            boolean operator = "+-*/<=".indexOf(b) >= 0;
            boolean ends = b == ' ' || b == '\n' || b == ';';
            boolean fits = digit || operator;
            Due.fault("reads 1" + (char) b + "1;", fits ? 0 : 1, fits ? -1 : ends ? 8 : 7);
        }
    }

    @Says("blanks (32, 10) between them count for nothing.")
    private static void blanksCountForNothing() {
        Due.fault(" ", 0, -1);
        Due.fault("\n", 0, -1);
        Due.fault("\n \n leaf\n1 \n 1\n;\n\n", 0, -1);
        Due.fault("reads\n(\nnot\n1\n)\n+\n1\n;", 0, -1);
        Due.fault("le af 1 1;", 1, 0);
        Due.fault("leaf 1 1 1;", 1, 9);
        Due.fault("\n\nx", 1, 2);
        Due.fault("leaf 1 1\n\n", 1, 10);
        // Alone, each other byte is no COURT.
        for (int b = 0; b < 256; b++) {
            boolean blank = b == 32 || b == 10;
            Due.fault("" + (char) b, blank ? 0 : 1, blank ? -1 : 0);
            // Ahead of a NUMBER a digit is one of its own, and a letter one of the word.
            boolean fits = blank || b >= '0' && b <= '9';
            boolean letter = b >= 'a' && b <= 'z';
            Due.fault("pot" + (char) b + "5;", fits ? 0 : 1, fits ? -1 : letter ? 0 : 3);
        }
    }

    @Says("In quotes is what stands there, [ ] perhaps, * any number of times, | one of some. COURT: LINE*.")
    private static void anyNumberOfLines() {
        Due.is("no line", Due.told("").count(0), 0);
        Due.is("one line", Due.told("leaf 1 1;").count(0), 1);
        DregsVerdict x = Due.told("reads 1;judge 1 6 1;leaf 1 1;pot 7;barrister 2 6 2;drinks 2;leaf 2 2;judge 3 6 3;");
        Due.is("in any order: leaves", x.count(0), 2);
        Due.is("judges", x.count(1), 3);
        Due.is("the last judge", x.judge(2, 0), 3);
        Due.is("the last leaf", x.leaf(1, 1), 2);
        Due.fault("leaf 1 1;;", 1, 9);
        Due.fault(";", 1, 0);
    }

    @Says({"LINE: ('leaf' PLACE WEIGHT", "| ('judge' | 'barrister') THIRST HAND WISH", "| 'pot' NUMBER",
        "| ('drinks' | 'reads') EXPR) ';', all in capitals but EXPR being NUMBERS."})
    private static void eachLineFromItsFirstTokenOn() {
        String[] lines = {"leaf 1 2 ;", "judge 1 2 3 ;", "barrister 1 2 3 ;", "pot 1 ;", "drinks 1 ;", "reads 1 ;"};
        for (String line : lines) {
            Due.fault(line, 0, -1);
            String[] tokens = line.split(" ");
            String begun = tokens[0];
            for (int i = 1; i < tokens.length; i++) {
                // It ends too soon, has ';' too soon, or a word or a sign where a NUMBER or ';' must stand.
                Due.fault(begun, 1, begun.length());
                if (i < tokens.length - 1) {
                    Due.fault(begun + " ;", 1, begun.length() + 1);
                    Due.fault(begun + " (;", 1, begun.length() + (line.matches("(drinks|reads).*") ? 2 : 1));
                    Due.fault(begun + " -1", 1, begun.length() + 1);
                    Due.fault(begun + " leaf", line.matches("(drinks|reads).*") ? 3 : 1, begun.length() + 1);
                }
                begun = begun + " " + tokens[i];
            }
            Due.fault(line.replace(" ;", " leaf"), 1, line.length() - 1);
            Due.fault(line.replace(" ;", " 1;"), 1, line.length() - 1);
            Due.fault(line.replace(" ;", " );"), 1, line.length() - 1);
        }
        Due.is("a judge is no barrister", Due.told("judge 1 2 3;").judge(0, 4), 0);
        Due.is("a barrister is one", Due.told("barrister 1 2 3;").judge(0, 4), 1);
        Due.fault("leaf most 1;", 1, 5);
        Due.fault("pot (5);", 1, 4);
    }

    // ---- rules

    @Says("EXPR: AND ('or' AND)*.")
    private static void anyNumberOfOr() {
        Due.is("none", worth("7"), 7);
        Due.is("one", worth("0 or 0"), 0);
        Due.is("one that holds", worth("0 or 7"), 1);
        Due.is("many, only the last holds", worth("0 or ".repeat(100) + "1"), 1);
        Due.is("many, none holds", worth("0 or ".repeat(100) + "0"), 0);
        Due.fault("reads 1 or;", 1, 10);
        Due.fault("reads 1 or", 1, 10);
        Due.fault("reads or 1;", 3, 6);
        Due.fault("reads 1 or or 1;", 3, 11);
    }

    @Says("AND: NOT ('and' NOT)*.")
    private static void anyNumberOfAnd() {
        Due.is("one", worth("7 and 2"), 1);
        Due.is("many, all hold", worth("1 and ".repeat(100) + "2"), 1);
        Due.is("many, only the last doesn't", worth("1 and ".repeat(100) + "0"), 0);
        Due.is("'and' ahead of 'or'", worth("1 or 0 and 0"), 1);
        Due.is("'and' ahead of 'or'", worth("0 and 0 or 1"), 1);
        Due.is("'not' behind 'and'", worth("1 and not 0"), 1);
        Due.fault("reads 1 and;", 1, 11);
        Due.fault("reads and 1;", 3, 6);
    }

    @Says("NOT: 'not' NOT | SUM [('<' | '=') SUM].")
    private static void atMostOneTest() {
        Due.is("no test", worth("5+4"), 9);
        Due.is("'not' of all of a test", worth("not 5=5"), 0);
        Due.is("'not' of all of a test", worth("not 1<1"), 1);
        Due.is("'not' twice", worth("not not 9"), 1);
        Due.is("sums on both sides", worth("1+2<2+2"), 1);
        Due.fault("reads 1<2<3;", 1, 9);
        Due.fault("reads 1=2=3;", 1, 9);
        Due.fault("reads 1<=2;", 1, 8);
        Due.fault("reads (1<2)<3;", 0, -1);
        Due.fault("reads 1<not 1;", 3, 8);
        Due.fault("reads 1<;", 1, 8);
        Due.fault("reads <1;", 1, 6);
        Due.fault("reads not;", 1, 9);
        Due.fault("reads not <1;", 1, 10);
    }

    @Says("SUM: PRODUCT (('+' | '-') PRODUCT)*.")
    private static void anyNumberOfSums() {
        Due.is("many", worth("0" + "+1".repeat(99)), 99);
        Due.is("many back", worth("300" + "-1".repeat(280)), 20);
        Due.is("of products", worth("1+2*3-4/2"), 5);
        Due.fault("reads 1+;", 1, 8);
        Due.fault("reads +1;", 1, 6);
        Due.fault("reads 1++1;", 1, 8);
        Due.fault("reads 1+not 1;", 3, 8);
    }

    @Says("PRODUCT: PART (('*' | '/') PART)*.")
    private static void anyNumberOfProducts() {
        Due.is("many", worth("7" + "*1".repeat(200)), 7);
        Due.is("many parted", worth("9999" + "/2".repeat(9)), 19);
        Due.fault("reads 1*;", 1, 8);
        Due.fault("reads *1;", 1, 6);
        Due.fault("reads 1*-1;", 1, 8);
        Due.fault("reads 1/;", 1, 8);
    }

    @Says("PART: NUMBER | VALUE | '(' EXPR ')'.")
    private static void eachPart() {
        Due.is("0", worth("0"), 0);
        Due.is("a NUMBER", worth("0042"), 42);
        Due.is("a VALUE", worth("thirst"), 3);
        Due.is("an EXPR", worth("(0 or 5)*7"), 7);
        Due.is("within 5 others", worth("((((( 1 or 0 )))))+1"), 2);
        Due.is("within 5 others, again and again", worth("(((((1)))))+(((((2)))))*(((((3)))))"), 7);
        // As much as can be left open ahead of one number: five operators in each of six EXPRs.
        String open = "0 or 1 and 1=0+1*(".repeat(5) + "0 or 1 and 1=0+1*1" + ")".repeat(5);
        Due.is("all left open", worth(open), 1);
        Due.fault("reads ();", 1, 7);
        Due.fault("reads (1;", 1, 8);
        Due.fault("reads (1", 1, 8);
        Due.fault("reads 1);", 1, 7);
        Due.fault("reads (1)(1);", 1, 9);
        Due.fault("reads 1 level;", 1, 8);
    }

    @Says("From the left; ints that wrap, / cut down to 0, by 0 gives 0;")
    private static void intsAsTheyAre() {
        Due.is("less, from the left", worth("9-5-2"), 2);
        Due.is("more, from the left", worth("9-5+2"), 6);
        Due.is("parted, from the left", worth("80/4/2"), 10);
        Due.is("parted and times, from the left", worth("7/2*2"), 6);
        // 2147483647: one more wraps.
        String top = "(2147*1000*1000+483*1000+647)";
        Due.is("the most int", worth("(" + top + "-2147*1000*1000)/1000=483"), 1);
        Due.is("is above 0", worth("0<" + top), 1);
        Due.is("one more is below 0", worth(top + "+1<0"), 1);
        Due.is("and the least: one less is above 0", worth("0<" + top + "+1-1"), 1);
        Due.is("times wraps", worth("8192*8192*64"), 0);
        Due.is("times wraps to the least", worth("8192*8192*32=" + top + "+1"), 1);
        Due.is("the least by -1", worth("8192*8192*32/(0-1)<0"), 1);
        Due.is("7 by 2", worth("7/2"), 3);
        Due.is("-7 by 2 is -3", worth("(0-7)/2+50"), 47);
        Due.is("7 by -2 is -3", worth("7/(0-2)+50"), 47);
        Due.is("-7 by -2 is 3", worth("(0-7)/(0-2)"), 3);
        Due.is("-1 by 2 is 0", worth("(0-1)/2=0"), 1);
        Due.is("7 by 0", worth("7/0+50"), 50);
        Due.is("-7 by 0", worth("(0-7)/0+50"), 50);
        Due.is("0 by 0", worth("0/0+50"), 50);
        Due.is("by what comes to 0", worth("7/(5-5)+50"), 50);
    }

    @Says("tests, not, and, or are 1 or 0 (what isn't 0 holds).")
    private static void oneOrZero() {
        String[] one = {"3<4", "(0-1)<0", "4=4", "not 0", "not not 9", "9 and 9", "(0-1) and 2", "0 or 9", "9 or 0", "9 or 9",
            "(0-1) or 0", "not (1 and 0)"};
        String[] zero = {"4<4", "5<4", "4=5", "not 1", "not 9", "not (0-1)", "0 and 0", "9 and 0", "0 and 9", "0 or 0"};
        for (String expr : one) {
            Due.is(expr, worth("50+(" + expr + ")"), 51);
        }
        for (String expr : zero) {
            Due.is(expr, worth("50+(" + expr + ")"), 50);
        }
        Due.is("a PART alone is as it is", worth("50+(9)"), 59);
    }

    @Says("VALUES of both: 'level' (of the cup),")
    private static void levelOfTheCup() {
        DregsVerdict x = Due.told("judge 0 6 0;judge 0 6 0;judge 0 6 0;pot 40;drinks level/2;reads level;");
        Due.is("ahead of anybody's drinking", x.drunk(0, 1), 20);
        Due.is("behind the first one's", x.drunk(1, 1), 10);
        Due.is("at the end", x.verdict(1, 0), 0);
        Due.is("0", Due.told("pot 0;reads level+3;").verdict(1, 0), 3);
        Due.is("99", Due.told("pot 99;reads level;").verdict(1, 0), 4);
    }

    @Says("'most' (how many LEAVES are at one PLACE at most),")
    private static void mostLeavesAtOnePlace() {
        Due.is("without leaves", Due.told("reads most;").verdict(1, 0), 0);
        Due.is("one", Due.told("leaf 4 1;reads most;").verdict(1, 0), 1);
        Due.is("each by itself", Due.told("leaf 0 1;leaf 11 1;leaf 1 1;reads most;").verdict(1, 0), 1);
        Due.is("all eight", Due.told("leaf 11 1;".repeat(8) + "reads most;").verdict(1, 0), 3);
        Due.is("three and two", Due.told("leaf 0 1;leaf 9 1;leaf 9 1;leaf 0 1;leaf 9 1;reads most;").verdict(1, 0), 3);
        Due.is("of DRINKS", Due.told("leaf 2 1;leaf 2 1;judge 0 6 0;judge 0 6 0;drinks most;").drunk(0, 1), 2);
    }

    @Says("'where' (the least PLACE with so many; 0 without LEAVES),")
    private static void leastPlaceWithSoMany() {
        Due.is("without leaves", Due.told("reads where;").verdict(1, 0), 0);
        Due.is("at 0", Due.told("leaf 0 1;reads where;").verdict(1, 0), 0);
        Due.is("at 11", Due.told("leaf 11 1;reads where;").verdict(1, 0), 1);
        DregsVerdict former = Due.told("leaf 11 1;leaf 11 1;reads where;");
        former.verdict(1, 0);
        Due.tell(former, "reads where+most;");
        Due.is("without leaves by now", former.verdict(1, 0), 0);
        Due.is("of like ones the least", Due.told("leaf 9 1;leaf 3 1;leaf 8 1;reads where;").verdict(1, 0), 3);
        Due.is("two rather than one", Due.told("leaf 9 1;leaf 3 1;leaf 9 1;reads where;").verdict(1, 0), 4);
        Due.is("of DRINKS", Due.told("leaf 7 1;judge 0 6 0;judge 0 6 0;drinks where;").drunk(0, 1), 7);
    }

    @Says("'odd' (how many LEAVES are at PLACES 1, 3, 5 ..),")
    private static void leavesAtOddPlaces() {
        Due.is("without leaves", Due.told("reads odd;").verdict(1, 0), 0);
        for (int place = 0; place < 12; place++) {
            Due.is("at " + place, Due.told("leaf " + place + " 1;reads odd;").verdict(1, 0), place % 2);
        }
        Due.is("all eight at 11", Due.told("leaf 11 1;".repeat(8) + "reads odd;").verdict(1, 0), 3);
        Due.is("of DRINKS", Due.told("leaf 7 1;leaf 1 1;judge 0 6 0;judge 0 6 0;drinks odd;").drunk(0, 1), 2);
    }

    @Says("'case';")
    private static void numberOfTheCase() {
        DregsVerdict x = Due.told("judge 0 6 0;judge 0 6 0;drinks case;reads case;");
        Due.is("the first one is 0", x.verdict(1, 0), 0);
        Due.is("of DRINKS, too", x.drunk(0, 1), 0);
        Due.is("the 60th one is 59", x.drunk(0, 60), 59);
        Due.is("read", x.verdict(60, 0), 4);
        x.cases(3);
        Due.is("behind three", x.drunk(0, 1), 3);
        DregsVerdict last = Due.told("reads case=999;");
        for (int i = 0; i < 49; i++) {
            last.cases(20);
        }
        last.cases(19);
        Due.is("999 have gone by: the next one", last.verdict(1, 0), 1);
        Due.is("and the one behind it", last.verdict(2, 0), 0);
    }

    @Says("of DRINKS also 'thirst', 'seat' (of the JUDGE).")
    private static void thirstAndSeatOfDrinks() {
        DregsVerdict x = Due.told("judge 30 6 0;judge 0 6 0;judge 7 6 0;pot 99;drinks thirst+10*seat;");
        Due.is("judge 0", x.drunk(0, 1), 30);
        Due.is("judge 1", x.drunk(1, 1), 10);
        x.change(0, 2);
        Due.is("judge 2 in seat 0", x.drunk(2, 1), 7);
        x.change(0, 1);
        Due.is("judge 0 in seat 1", x.drunk(0, 1), 40);
        Due.fault("reads thirst;", 3, 6);
        Due.fault("reads seat;", 3, 6);
        Due.fault("drinks 1;reads 1+seat;", 3, 17);
        Due.fault("reads 1;drinks seat;", 0, -1);
        Due.is("the 7th of 8", Due.told("judge 0 6 0;".repeat(8) + "drinks seat;").drunk(6, 1), 6);
    }

    // ---- faults

    @Says("FAULTS, the first along the text, at a TOKEN's first byte, of one TOKEN the least:")
    private static void firstAlongTheText() {
        Due.fault("pot 100;x", 2, 4);
        Due.fault("x;pot 100;", 1, 0);
        Due.fault("reads levels;pot 100;", 3, 6);
        Due.fault("pot 1;pot 100;", 5, 6);
        Due.fault("  \n 12345", 1, 4);
        // Of one TOKEN: it is the first one within 6 others, and no VALUE (2, not 3); it can't stand there, and has 5 digits.
        Due.fault("reads ((((((zzz", 2, 12);
        Due.fault("reads 1 12345;", 1, 8);
        // A ninth LEAF whose PLACE is none; a second pot whose NUMBER is none.
        Due.fault("leaf 1 1;".repeat(8) + "leaf 99 0;", 2, 72);
        Due.fault("pot 1;pot 999;", 5, 6);
        // The seventh 'not' is where a PART might stand, too.
        Due.fault("reads not not not not not not not;", 2, 30);
    }

    @Says("1 a TOKEN that can't stand there, or is none (the text's length where it ends too soon);")
    private static void cannotStandThere() {
        Due.fault("level", 1, 0);
        Due.fault("leaf leaf", 1, 5);
        Due.fault("pot 1 ; 5", 1, 8);
        Due.fault("pot 1,", 1, 5);
        Due.fault("reads 1 > 2;", 1, 8);
        Due.fault("reads ! 1;", 1, 6);
        Due.fault("\0", 1, 0);
        Due.fault("pot", 1, 3);
        Due.fault("pot 1", 1, 5);
        Due.fault("pot 1 \n ", 1, 8);
        Due.fault("reads (((((", 1, 11);
        Due.fault("reads ((((((", 1, 12);
        Due.fault("reads (((((1))))", 1, 16);
        Due.fault(atTheEnd("pot 1", 700), 1, 700);
        Due.fault("pot 1".concat(" ".repeat(695)), 1, 700);
        // Bytes behind the first n are no part of the text.
        DregsVerdict x = new DregsVerdict();
        Due.feed(x, "pot 1;".getBytes());
        Due.is("court(5)", x.court(5), 1);
        Due.is("its length", x.fault(), 5);
        Due.feed(x, "pot 12;".getBytes());
        Due.is("court(4)", x.court(4), 1);
        Due.is("its length", x.fault(), 4);
    }

    @Says("2 one that can, but is too much: a NUMBER of 5 digits or more,")
    private static void fiveDigits() {
        Due.fault("reads 9999;", 0, -1);
        Due.fault("reads 10000;", 2, 6);
        Due.fault("reads 00000;", 2, 6);
        Due.fault("reads 1+00001;", 2, 8);
        Due.fault("reads 999999999999999999999999;", 2, 6);
        Due.fault("reads 4294967296;", 2, 6);
        Due.fault("pot 0005;", 0, -1);
        Due.fault("pot 00005;", 2, 4);
        Due.fault("leaf 00001 1;", 2, 5);
        Due.fault("leaf 1 00001;", 2, 7);
        Due.fault("judge 00001 1 1;", 2, 6);
        Due.fault("judge 1 00001 1;", 2, 8);
        Due.fault("judge 1 1 00001;", 2, 10);
        Due.fault("00001", 1, 0);
        Due.fault("pot 1 00001;", 1, 6);
    }

    @Says("or (not in an EXPR) not as told,")
    private static void notAsTold() {
        Due.fault("leaf 11 9;judge 30 12 4;pot 99;", 0, -1);
        Due.fault("leaf 0 1;judge 0 0 0;pot 0;", 0, -1);
        Due.fault("leaf 12 9;", 2, 5);
        Due.fault("leaf 11 0;", 2, 8);
        Due.fault("leaf 11 10;", 2, 8);
        Due.fault("judge 31 12 4;", 2, 6);
        Due.fault("judge 30 13 4;", 2, 9);
        Due.fault("judge 30 12 5;", 2, 12);
        Due.fault("pot 100;", 2, 4);
        // In an EXPR a NUMBER is as it is.
        Due.fault("drinks 9999;reads 9999;", 0, -1);
    }

    @Says("the first TOKEN of the 9th LEAF, the 9th JUDGE,")
    private static void theNinth() {
        String leaves = "leaf 1 1;".repeat(8);
        String judges = "judge 1 1 1;".repeat(7) + "barrister 1 1 1;";
        Due.fault(leaves, 0, -1);
        Due.fault(judges, 0, -1);
        Due.fault(leaves + judges, 0, -1);
        Due.fault(leaves + "leaf", 2, 72);
        Due.fault(leaves + " leaf 1 1;", 2, 73);
        Due.fault(judges + "judge", 2, 100);
        Due.fault(judges + "barrister", 2, 100);
        Due.fault(leaves + judges + "leaf 1 1;", 2, 172);
        Due.fault(leaves + judges + "judge 1 1 1;", 2, 172);
        Due.fault(leaves + "leafs", 1, 72);
    }

    @Says("of an EXPR within 6 others (a NUMBER, any word, a parenthesis),")
    private static void withinSixOthers() {
        Due.fault("reads (((((1)))));", 0, -1);
        Due.fault("drinks (((((1)))));", 0, -1);
        Due.fault("reads ((((((1))))));", 2, 12);
        Due.fault("reads (((((( 1))))));", 2, 13);
        Due.fault("drinks ((((((1))))));", 2, 13);
        Due.fault("reads ((((((level))))));", 2, 12);
        Due.fault("reads ((((((not 1))))));", 2, 12);
        Due.fault("reads ((((((leaf))))));", 2, 12);
        Due.fault("reads ((((((or", 2, 12);
        Due.fault("reads ((((((thirst", 2, 12);
        Due.fault("reads ((((((12345", 2, 12);
        Due.fault("reads (((((((1)))))));", 2, 12);
        // What can't begin an EXPR can't stand there.
        Due.fault("reads (((((()", 1, 12);
        Due.fault("reads ((((((;", 1, 12);
        Due.fault("reads ((((((-1", 1, 12);
        Due.fault("reads ((((((!", 1, 12);
        Due.fault("reads ((((((", 1, 12);
        // Behind one that is not too deep, or beside it.
        Due.fault("reads 1+(((((2)))))*(((((3)))));", 0, -1);
        Due.fault("reads (((((1)))))+((((((2))))));", 2, 24);
        Due.fault("reads 1 or 1 and not 1<1+1*((((((2))))));", 2, 33);
        Due.fault("reads (((((1)+(2))))+((((3)))));", 0, -1);
        Due.fault("reads (((((1+(2))))));", 2, 14);
    }

    @Says("the seventh 'not' side by side;")
    private static void seventhNot() {
        String six = "not not not not not not ";
        Due.fault("reads " + six + "1;", 0, -1);
        Due.fault("reads " + six + "not 1;", 2, 30);
        Due.fault("reads " + six + "not not 1;", 2, 30);
        Due.fault("reads " + six + "\n not", 2, 32);
        Due.fault("reads " + six + "(" + six + "1);", 0, -1);
        Due.fault("reads " + six + "(" + six + "not 1);", 2, 55);
        Due.fault("reads " + six + "1 and " + six + "1 or " + six + "1;", 0, -1);
        Due.fault("reads 1 and " + six + "not 1;", 2, 36);
        Due.fault("reads " + six + "nots;", 3, 30);
        Due.is("six of them", worth(six + "7"), 1);
        Due.is("five of them", worth("not not not not not 7"), 0);
    }

    @Says("3 any word where a PART must stand that is no VALUE of this EXPR;")
    private static void noValue() {
        String[] words = {"leaf", "judge", "barrister", "pot", "drinks", "reads", "or", "and", "a", "z", "levels", "leve", "cases"};
        String[] ahead = {"reads ", "reads 1+", "reads 1-", "reads 1*", "reads 1/", "reads 1<", "reads 1=", "reads 1 or ",
            "reads 1 and ", "reads not ", "reads (", "reads (((((", "drinks "};
        for (String word : words) {
            for (String begun : ahead) {
                Due.fault(begun + word + ";", 3, begun.length());
            }
        }
        for (String begun : new String[] {"reads 1+", "reads 1-", "reads 1*", "reads 1/", "reads 1<", "reads 1="}) {
            Due.fault(begun + "not 1;", 3, begun.length());
        }
        for (String value : new String[] {"level", "most", "where", "odd", "case"}) {
            Due.fault("reads " + value + ";drinks " + value + ";", 0, -1);
        }
        for (String value : new String[] {"thirst", "seat"}) {
            Due.fault("drinks " + value + ";", 0, -1);
            Due.fault("reads " + value + ";", 3, 6);
        }
        // Where no PART must stand a word is a TOKEN that can't stand there.
        Due.fault("reads 1 leaf;", 1, 8);
        Due.fault("reads (1 leaf);", 1, 9);
    }

    @Says("5 a second 'pot', 'drinks', 'reads'.")
    private static void aSecondOne() {
        Due.fault("pot 1;drinks 1;reads 1;", 0, -1);
        Due.fault("pot 1;pot 1;", 5, 6);
        Due.fault("drinks 1;drinks 1;", 5, 9);
        Due.fault("reads 1;reads 1;", 5, 8);
        Due.fault("pot 1;drinks 1;reads 1;pot", 5, 23);
        Due.fault("pot 1;drinks 1;reads 1;drinks", 5, 23);
        Due.fault("pot 1;drinks 1;reads 1; reads", 5, 24);
        // One in each text is no second one.
        DregsVerdict x = Due.told("pot 1;drinks 1;reads 1;");
        Due.is("told again", Due.tell(x, "pot 2;drinks 2;reads 2;"), 0);
        Due.is("a text with a FAULT", Due.tell(x, "pot 3;drinks 3;reads 3;x"), 1);
        Due.is("told again", Due.tell(x, "pot 4;drinks 4;reads 4;"), 0);
        Due.is("the pot", x.count(3), 4);
    }
}
