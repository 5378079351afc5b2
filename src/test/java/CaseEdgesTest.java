/** The boundary cases of what is now, of a CASE and of ACTS: "Terms" from A CASE to ACTS, promises 5 to 15. */
public final class CaseEdgesTest {
    private static final int NONE = DregsVerdict.NONE;
    private static final int[] FAR = {Integer.MIN_VALUE, Integer.MAX_VALUE};

    private CaseEdgesTest() {
    }

    public static void main(String[] args) throws Exception {
        Sayings.run(CaseEdgesTest.class);
    }

    private static void lie(String when, DregsVerdict x, int... places) {
        for (int l = 0; l < places.length; l++) {
            Due.is(when + ": leaf " + l, x.leaf(l, 0), places[l]);
        }
    }

    private static DregsVerdict behindACase(String text) {
        DregsVerdict x = Due.told(text);
        Due.is("cases(1)", x.cases(1), 1);
        return x;
    }

    private static String leavesAt(int... places) {
        StringBuilder text = new StringBuilder();
        for (int place : places) {
            text.append("leaf ").append(place).append(" 1;");
        }
        return text.toString();
    }

    // ---- a case

    @Says("A CASE: the cup is filled to THE POT.")
    private static void theCupIsFilled() {
        DregsVerdict x = Due.told("judge 20 6 0;judge 0 6 0;pot 50;");
        Due.is("the first case", x.verdict(1, 1), 30);
        Due.is("filled again", x.verdict(2, 1), 30);
        Due.is("and again", x.verdict(60, 1), 30);
        Due.is("a pot of 0", Due.told("judge 20 6 0;judge 0 6 0;pot 0;").verdict(1, 1), 0);
        Due.is("a pot of 99", Due.told("pot 99;").verdict(1, 1), 99);
        x.pot(20);
        Due.is("another pot", x.verdict(1, 1), 0);
    }

    @Says("Then SEAT by SEAT each JUDGE:")
    private static void seatBySeat() {
        DregsVerdict x = Due.told("leaf 0 1;judge 10 7 0;judge 0 8 0;pot 20;");
        // 1 at a level of 10, then 2 at 10; the other way round 2 at 20, then 1 at 20.
        Due.is("by their numbers", x.lies(0, 1), 3);
        x.change(0, 1);
        Due.is("by their seats", x.lies(0, 1), 6);
        Due.is("no judges", Due.told("leaf 5 1;").lies(0, 60), 5);
        // Eight judges, each by 1 at 10: 8 places on.
        Due.is("all eight", Due.told("leaf 0 1;" + "judge 0 7 0;".repeat(8) + "pot 10;").lies(0, 1), 8);
    }

    @Says("whoever isn't in the last SEAT drinks:")
    private static void theLastSeatDoesNotDrink() {
        DregsVerdict one = Due.told("judge 30 6 0;pot 40;");
        Due.is("alone", one.verdict(1, 1), 40);
        Due.is("alone", one.drunk(0, 1), 0);
        DregsVerdict two = Due.told("judge 30 6 0;judge 20 6 0;pot 40;");
        Due.is("the first of two", two.drunk(0, 1), 30);
        Due.is("the last of two", two.drunk(1, 1), 0);
        two.change(0, 1);
        Due.is("the last by SEAT, not by number", two.drunk(0, 1), 0);
        Due.is("the first by SEAT", two.drunk(1, 1), 20);
        DregsVerdict eight = Due.told("judge 5 6 0;".repeat(8) + "pot 99;");
        Due.is("the seventh of eight", eight.drunk(6, 1), 5);
        Due.is("the eighth", eight.drunk(7, 1), 0);
        Due.is("all of them", eight.verdict(1, 1), 64);
        DregsVerdict eighth = Due.told("judge 5 6 0;".repeat(7) + "judge 30 6 0;pot 99;");
        eighth.change(7, 0);
        Due.is("the eighth, in another SEAT", eighth.drunk(7, 1), 30);
        Due.is("who sits last now", eighth.drunk(0, 1), 0);
        Due.is("what is left", eighth.verdict(1, 1), 39);
    }

    @Says("LEVEL is less by what DRINKS gives (without it THIRST), kept to 0 to LEVEL;")
    private static void keptToTheLevel() {
        int[][] pots = {{29, 0}, {30, 0}, {31, 1}, {0, 0}};
        for (int[] pot : pots) {
            Due.is("30 of " + pot[0], Due.told("judge 30 6 0;judge 0 6 0;pot " + pot[0] + ";").verdict(1, 1), pot[1]);
        }
        String two = "judge 7 6 0;judge 0 6 0;judge 0 6 0;pot 50;drinks ";
        String[] exprs = {"0", "0-1", "0-50", "49", "50", "51", "9999", "thirst", "8192*8192*32", "8192*8192*32-1"};
        int[] firsts = {0, 0, 0, 49, 50, 50, 50, 7, 0, 50};
        int[] seconds = {0, 0, 0, 1, 0, 0, 0, 0, 0, 0};
        for (int i = 0; i < exprs.length; i++) {
            DregsVerdict x = Due.told(two + exprs[i] + ";");
            Due.is("the first one by " + exprs[i], x.drunk(0, 1), firsts[i]);
            Due.is("the second one by " + exprs[i], x.drunk(1, 1), seconds[i]);
            Due.is("the level by " + exprs[i], x.verdict(1, 1), 50 - firsts[i] - seconds[i]);
        }
    }

    @Says("then one stirs: each LEAF goes so many PLACES on (back, if it is below 0) as HAND less 6, times a tenth of LEVEL "
        + "(cut down), parted by its WEIGHT, comes to (cut down to 0);")
    private static void soManyPlacesOn() {
        int[][] tenths = {{0, 0}, {9, 0}, {10, 1}, {19, 1}, {20, 2}, {99, 9}};
        for (int[] tenth : tenths) {
            Due.is("on at " + tenth[0], Due.told("leaf 0 1;judge 0 7 0;pot " + tenth[0] + ";").lies(0, 1), tenth[1]);
            Due.is("back at " + tenth[0], Due.told("leaf 9 1;judge 0 5 0;pot " + tenth[0] + ";").lies(0, 1), 9 - tenth[1]);
        }
        String leaves = "leaf 0 1;leaf 0 2;leaf 0 3;leaf 0 4;leaf 0 5;leaf 0 6;leaf 0 7;leaf 0 9;";
        lie("6 on", behindACase(leaves + "judge 0 12 0;pot 10;"), 6, 3, 2, 1, 1, 1, 0, 0);
        lie("6 back", behindACase(leaves + "judge 0 0 0;pot 10;"), 6, 9, 10, 11, 11, 11, 0, 0);
        // 54, 27, 18, 13, 10, 9, 7, 6 places.
        lie("54 on", behindACase(leaves + "judge 0 12 0;pot 99;"), 6, 3, 6, 1, 10, 9, 7, 6);
        lie("54 back", behindACase(leaves + "judge 0 0 0;pot 99;"), 6, 9, 6, 11, 2, 3, 5, 6);
        lie("by HAND 6", behindACase(leaves + "judge 0 6 0;pot 99;"), 0, 0, 0, 0, 0, 0, 0, 0);
        Due.is("behind the drinking", Due.told("leaf 0 1;judge 11 7 0;judge 0 6 0;pot 20;").lies(0, 1), 0);
        // It is one times 4 by 3, not one by 3 times 4; and each judge's by itself: 2 by 3 twice is 0 twice.
        Due.is("times, then parted", Due.told("leaf 0 3;judge 0 7 0;pot 40;").lies(0, 1), 1);
        Due.is("each one's by itself", Due.told("leaf 0 3;judge 0 8 0;judge 0 8 0;pot 10;").lies(0, 1), 0);
    }

    @Says("a barrister blows then: LEAF by LEAF each that is at one PLACE with a LEAF of a lesser number then goes one PLACE "
        + "on.")
    private static void leafByLeaf() {
        String blows = "barrister 0 6 0;";
        behindACase(blows);
        lie("one leaf", behindACase(leavesAt(4) + blows), 4);
        lie("two", behindACase(leavesAt(4, 4) + blows), 4, 5);
        lie("a judge", behindACase(leavesAt(4, 4) + "judge 0 6 0;"), 4, 4);
        lie("side by side", behindACase(leavesAt(4, 5) + blows), 4, 5);
        // Leaf 1 has gone to 5 when leaf 2 is looked at, which goes on from there.
        lie("then", behindACase(leavesAt(4, 4, 5) + blows), 4, 5, 6);
        lie("one place only", behindACase(leavesAt(5, 4, 4) + blows), 5, 4, 5);
        lie("a lesser number", behindACase(leavesAt(5, 4, 5, 4) + blows), 5, 4, 6, 5);
        // Leaf 1 leaves 4 ahead of leaf 2, which is there with leaf 0 all the same.
        lie("three at one place", behindACase(leavesAt(4, 4, 4) + blows), 4, 5, 5);
        lie("eight at 11", behindACase(leavesAt(11, 11, 11, 11, 11, 11, 11, 11) + blows), 11, 0, 0, 0, 0, 0, 0, 0);
        lie("two blow", behindACase(leavesAt(4, 4, 4) + blows + blows), 4, 5, 6);
        lie("behind stirring", behindACase("leaf 0 1;leaf 0 9;barrister 0 7 0;pot 10;"), 1, 0);
        lie("behind stirring", behindACase("leaf 11 1;leaf 0 9;barrister 0 7 0;pot 10;"), 0, 1);
        // The barrister is first, so that the judge stirs what was blown.
        lie("ahead of the next one", behindACase("leaf 0 1;leaf 0 1;" + blows + "judge 0 8 0;pot 10;"), 2, 3);
        // The judge sits first now, and does not blow: the barrister parts the leaves ahead of blowing.
        DregsVerdict changed = Due.told("leaf 0 1;leaf 0 9;barrister 0 7 0;judge 0 6 0;pot 10;");
        changed.change(0, 1);
        changed.cases(1);
        lie("who it is, not where one sits", changed, 1, 0);
    }

    @Says("Then the VERDICT is what READS gives (without it 'where' and 'most'), MOD 5 (of one below 0: 5 more, until it "
        + "isn't).")
    private static void modFive() {
        String[] exprs = {"0", "4", "5", "9", "9999", "0-1", "0-4", "0-5", "0-6", "0-9999", "8192*8192*32", "8192*8192*32-1"};
        int[] verdicts = {0, 4, 0, 4, 4, 4, 1, 0, 4, 1, 2, 2};
        for (int i = 0; i < exprs.length; i++) {
            Due.is(exprs[i], Due.told("reads " + exprs[i] + ";").verdict(1, 0), verdicts[i]);
        }
        Due.is("without, 0 and 0", Due.told("").verdict(1, 0), 0);
        Due.is("without, 3 and 1", Due.told(leavesAt(3)).verdict(1, 0), 4);
        Due.is("without, 4 and 1", Due.told(leavesAt(4)).verdict(1, 0), 0);
        Due.is("without, 11 and 8", Due.told(leavesAt(11, 11, 11, 11, 11, 11, 11, 11)).verdict(1, 0), 4);
        Due.is("behind all of it", Due.told("leaf 0 1;judge 0 7 0;judge 0 7 0;pot 10;reads where;").verdict(1, 0), 2);
    }

    @Says("The CASE is one more then. (LEAVES lie as they do for the next one.)")
    private static void theNextOne() {
        DregsVerdict x = Due.told("leaf 10 1;judge 0 7 0;pot 10;reads case;");
        for (int k = 1; k <= 6; k++) {
            Due.is("the case", x.cases(1), k);
            Due.is("what was read", x.count(4), (k - 1) % 5);
            Due.is("the place", x.leaf(0, 0), (10 + k) % 12);
        }
    }

    // ---- what is now

    @Says(promise = 5, value = "0 LEAVES, 1 JUDGES, 2 the CASE, 3 THE POT, 4 the VERDICT of the latest CASE (NONE: none went by),")
    private static void countsOfTheCourt() {
        DregsVerdict x = Due.told(leavesAt(1, 2, 3) + "judge 0 6 0;judge 0 6 0;pot 0;reads 4;");
        int[] want = {3, 2, 0, 0, -1};
        for (int what = 0; what < want.length; what++) {
            Due.is("count(" + what + ")", x.count(what), want[what]);
        }
        x.verdict(1, 0);
        x.years(1, 5, 0);
        Due.is("none went by yet", x.count(4), -1);
        x.cases(20);
        Due.is("the case", x.count(2), 20);
        Due.is("the latest", x.count(4), 4);
        x.undo();
        Due.is("none went by again", x.count(4), -1);
        Due.is("the case", x.count(2), 0);
        DregsVerdict full = Due.told("leaf 1 1;".repeat(8) + "judge 1 1 1;".repeat(8) + "pot 99;");
        Due.is("8 leaves", full.count(0), 8);
        Due.is("8 judges", full.count(1), 8);
        Due.is("pot 99", full.count(3), 99);
    }

    @Says(promise = 5, value = "5 'most', 6 'where', 7 'odd', 8 A GAP,")
    private static void countsOfTheLeaves() {
        int[][] places = {{}, {0}, {11}, {1, 1, 1, 1, 1, 1, 1, 1}, {0, 2, 4, 6, 8, 10, 1, 3}, {5, 5, 2, 2}};
        int[][] want = {{0, 0, 0, 12}, {1, 0, 0, 11}, {1, 11, 1, 11}, {8, 1, 8, 11}, {1, 0, 2, 1}, {2, 2, 2, 8}};
        for (int i = 0; i < places.length; i++) {
            DregsVerdict x = Due.told(leavesAt(places[i]));
            for (int what = 5; what <= 8; what++) {
                Due.is("count(" + what + ") of leaves " + i, x.count(what), want[i][what - 5]);
            }
        }
    }

    @Says(promise = 5, value = "9 ACTS that are kept, 10 READ, 11 bytes of the tape, 12 to 14 STATUS 0 to 2.")
    private static void countsOfCalls() {
        DregsVerdict x = new DregsVerdict();
        for (int i = 1; i <= 41; i++) {
            x.pot(i);
            Due.is("acts", x.count(9), Math.min(i, 40));
        }
        for (int i = 1; i <= 9; i++) {
            x.read(i, 0);
            Due.is("read", x.count(10), Math.min(i, 8));
        }
        Due.is("one READ was refused", x.count(14), 1);
        for (int i = 1; i <= 36; i++) {
            x.feed(0, 0, 0, 0, 0);
            Due.is("bytes", x.count(11), Math.min(20 * i, 700));
        }
        Due.is("no text was refused", x.count(12), 0);
        Due.is("a text", x.court(1), 1);
        Due.is("one was refused", x.count(12), 1);
        Due.is("no act was refused", x.count(13), 0);
        x.pot(100);
        x.cases(0);
        Due.is("two were refused", x.count(13), 2);
        Due.is("STATUS 2 is as it was", x.count(14), 1);
    }

    @Says(promise = 5, value = "NoSuchElementException: another what.")
    private static void anotherCount() {
        Due.taken("count", 0, 14, Due.NSEE, Whole.busy()::count);
        Due.taken("count of a new object", 0, 14, Due.NSEE, n -> new DregsVerdict().count(n));
        Whole.stays("count(15)", NONE, x -> Due.missing("count(15)", () -> x.count(15)));
    }

    @Says(promise = 6, value = "Of a LEAF: 0 the PLACE, 1 the WEIGHT.")
    private static void placeAndWeight() {
        DregsVerdict x = Due.told("leaf 0 9;leaf 11 1;");
        Due.is("leaf(0, 0)", x.leaf(0, 0), 0);
        Due.is("leaf(0, 1)", x.leaf(0, 1), 9);
        Due.is("leaf(1, 0)", x.leaf(1, 0), 11);
        Due.is("leaf(1, 1)", x.leaf(1, 1), 1);
        x.put(0, 11);
        Due.is("the place, behind an act", x.leaf(0, 0), 11);
        Due.is("the weight, behind an act", x.leaf(0, 1), 9);
    }

    @Says(promise = 6, value = "NoSuchElementException: no such LEAF (as everywhere), what.")
    private static void noSuchLeaf() {
        String[] texts = {"judge 1 1 1;", "judge 1 1 1;leaf 1 1;", "judge 1 1 1;" + "leaf 1 1;".repeat(8)};
        int[] leaves = {0, 1, 8};
        for (int i = 0; i < texts.length; i++) {
            DregsVerdict x = Due.told(texts[i]);
            for (int leaf : new int[] {-1, leaves[i], FAR[0], FAR[1]}) {
                Due.missing("leaf " + leaf, () -> x.leaf(leaf, 0));
                Due.missing("leaf " + leaf, () -> x.leaf(leaf, 2));
                Due.missing("put " + leaf, () -> x.put(leaf, 0));
                Due.missing("lies " + leaf, () -> x.lies(leaf, 0));
                Due.missing("toLay " + leaf, () -> x.toLay(leaf, 0));
                Due.missing("stir " + leaf, () -> x.stir(0, leaf, 0));
                Due.missing("apart " + leaf, () -> x.apart(leaf, 0));
                Due.missing("apart " + leaf, () -> x.apart(0, leaf));
            }
        }
        DregsVerdict eight = Due.told(texts[2]);
        Due.taken("leaf of a what", 0, 1, Due.NSEE, what -> eight.leaf(7, what));
        Due.taken("leaf", 0, 7, Due.NSEE, leaf -> eight.leaf(leaf, 1));
        Whole.stays("leaf(2, 0)", NONE, x -> Due.missing("leaf(2, 0)", () -> x.leaf(2, 0)));
    }

    @Says(promise = 7, value = "Of a JUDGE: 0 THIRST, 1 the HAND, 2 the WISH, 3 the SEAT, 4 whether a barrister (1),")
    private static void eachOfAJudge() {
        DregsVerdict x = Due.told("judge 0 12 4;barrister 30 0 0;");
        int[][] want = {{0, 12, 4, 0, 0}, {30, 0, 0, 1, 1}};
        for (int j = 0; j < 2; j++) {
            for (int what = 0; what < 5; what++) {
                Due.is("judge(" + j + ", " + what + ")", x.judge(j, what), want[j][what]);
            }
        }
        x.change(1, 0);
        Due.is("the seat of 0", x.judge(0, 3), 1);
        Due.is("the seat of 1", x.judge(1, 3), 0);
        Due.is("a barrister in another seat", x.judge(1, 4), 1);
    }

    @Says(promise = 7, value = "5 PARTIES: who has the same WISH, too (bits).")
    private static void whoHasTheSameWish() {
        Due.is("alone", Due.told("judge 0 6 0;").judge(0, 5), 1);
        Due.is("all eight", Due.told("judge 0 6 4;".repeat(8)).judge(7, 5), 255);
        DregsVerdict x = Due.told("judge 0 6 0;judge 0 6 1;judge 0 6 2;judge 0 6 3;judge 0 6 4;judge 0 6 0;judge 0 6 4;");
        int[] want = {33, 2, 4, 8, 80, 33, 80};
        for (int j = 0; j < want.length; j++) {
            Due.is("the party of " + j, x.judge(j, 5), want[j]);
        }
        x.change(0, 6);
        Due.is("by judges, not by seats", x.judge(0, 5), 33);
    }

    @Says(promise = 7, value = "NoSuchElementException: no such JUDGE (as everywhere), what.")
    private static void noSuchJudge() {
        String[] texts = {"leaf 1 1;", "leaf 1 1;judge 1 1 1;", "leaf 1 1;" + "judge 1 1 1;".repeat(8)};
        int[] judges = {0, 1, 8};
        for (int i = 0; i < texts.length; i++) {
            DregsVerdict x = Due.told(texts[i]);
            for (int judge : new int[] {-1, judges[i], FAR[0], FAR[1]}) {
                Due.missing("judge " + judge, () -> x.judge(judge, 0));
                Due.missing("judge " + judge, () -> x.judge(judge, 6));
                Due.missing("change " + judge, () -> x.change(judge, 0) ? 1 : 0);
                Due.missing("change " + judge, () -> x.change(0, judge) ? 1 : 0);
                Due.missing("change " + judge, () -> x.change(judge, judge) ? 1 : 0);
                Due.missing("hand " + judge, () -> x.hand(judge, 0));
                Due.missing("hand " + judge, () -> x.hand(judge, 13));
                Due.missing("toDrink " + judge, () -> x.toDrink(judge, 0));
                Due.missing("better " + judge, () -> x.better(judge));
                Due.missing("stir " + judge, () -> x.stir(judge, 0, 0));
                Due.missing("drunk " + judge, () -> x.drunk(judge, 1));
                Due.missing("game " + judge, () -> x.game(judge, 0, 0));
                Due.missing("game " + judge, () -> x.game(0, judge, 0));
            }
            Due.is("no call was refused", x.count(13), 0);
        }
        DregsVerdict eight = Due.told(texts[2]);
        Due.taken("judge of a what", 0, 5, Due.NSEE, what -> eight.judge(7, what));
        Due.taken("judge", 0, 7, Due.NSEE, judge -> eight.judge(judge, 1));
        Whole.stays("judge(2, 0)", NONE, x -> Due.missing("judge(2, 0)", () -> x.judge(2, 0)));
    }

    @Says(promise = 8, value = "Who is in a SEAT.")
    private static void whoIsInASeat() {
        DregsVerdict x = Due.told("judge 1 1 1;".repeat(8));
        x.change(0, 7);
        Due.is("seat(0)", x.seat(0), 7);
        Due.is("seat(7)", x.seat(7), 0);
        x.change(0, 3);
        Due.is("seat(7)", x.seat(7), 3);
        Due.is("seat(3)", x.seat(3), 0);
        Due.is("seat(6)", x.seat(6), 6);
    }

    @Says(promise = 8, value = "NoSuchElementException: no such SEAT.")
    private static void noSuchSeat() {
        Due.missing("seat(0) without judges", () -> new DregsVerdict().seat(0));
        Due.taken("one seat", 0, 0, Due.NSEE, Due.told("judge 1 1 1;")::seat);
        Due.taken("eight seats", 0, 7, Due.NSEE, Due.told("judge 1 1 1;".repeat(8))::seat);
        Whole.stays("seat(2)", NONE, x -> Due.missing("seat(2)", () -> x.seat(2)));
    }

    @Says(promise = 9, value = "HEAP, as bits.")
    private static void heapAsBits() {
        DregsVerdict x = Due.told(leavesAt(0, 11, 0, 5, 11, 11, 3, 0));
        int[] want = {133, 0, 0, 64, 0, 8, 0, 0, 0, 0, 0, 50};
        for (int place = 0; place < 12; place++) {
            Due.is("heap(" + place + ")", x.heap(place), want[place]);
        }
        Due.is("all eight", Due.told(leavesAt(11, 11, 11, 11, 11, 11, 11, 11)).heap(11), 255);
        Due.is("without leaves", new DregsVerdict().heap(0), 0);
    }

    @Says(promise = 9, value = "NoSuchElementException: no such PLACE (as everywhere).")
    private static void noSuchPlace() {
        for (DregsVerdict x : new DregsVerdict[] {new DregsVerdict(), Due.told(leavesAt(5, 7))}) {
            Due.taken("heap", 0, 11, Due.NSEE, x::heap);
            Due.taken("weight", 0, 11, Due.NSEE, x::weight);
        }
        DregsVerdict x = Due.told(leavesAt(5));
        Due.taken("put", 0, 11, Due.NSEE, place -> x.put(0, place));
        Whole.stays("heap(12)", NONE, y -> Due.missing("heap(12)", () -> y.heap(12)));
    }

    // ---- acts

    @Says("ACTS (at most 40 are kept, the latest ones):")
    private static void fortyActs() {
        DregsVerdict x = Due.told("pot 50;");
        for (int i = 1; i <= 39; i++) {
            x.pot(i);
        }
        Due.is("39", x.count(9), 39);
        x.pot(40);
        Due.is("40", x.count(9), 40);
        for (int i = 0; i < 40; i++) {
            Due.is("undo()", x.undo(), 39 - i);
        }
        Due.is("the first one, too", x.count(3), 50);
        Due.is("no more", x.undo(), -1);
        for (int i = 1; i <= 41; i++) {
            x.pot(i);
        }
        Due.is("41: 40 are kept", x.count(9), 40);
        Due.is("undo()", x.undo(), 39);
        Due.is("the latest one first", x.count(3), 40);
        // There is room for one again: the oldest one stays.
        x.pot(77);
        Due.is("40 again", x.count(9), 40);
        for (int left = 39; left >= 0; left--) {
            Due.is("undo()", x.undo(), left);
            Due.is("the pot", x.count(3), left + 1);
        }
        Due.is("the first one is not kept", x.undo(), -1);
        Due.is("and so not undone", x.count(3), 1);
        manyTimesForty();
    }

    private static void manyTimesForty() {
        DregsVerdict x = Due.told("pot 50;");
        for (int i = 0; i < 99; i++) {
            x.pot(i);
        }
        for (int i = 0; i < 15; i++) {
            x.undo();
        }
        for (int i = 0; i < 90; i++) {
            x.pot(i);
        }
        for (int left = 39; left >= 0; left--) {
            Due.is("undo()", x.undo(), left);
            Due.is("the pot", x.count(3), 49 + left);
        }
        Due.is("no more", x.undo(), -1);
    }

    @Says({"CASES go by (1 to 20);", "two JUDGES change SEATS;", "HAND of one becomes another (0 to 12);",
        "THE POT becomes another (0 to 99);", "a LEAF is put at another PLACE."})
    private static void eachIsOneAct() {
        DregsVerdict x = Due.told("leaf 0 1;judge 0 7 0;judge 0 6 0;pot 10;");
        Due.is("cases(20)", x.cases(20), 20);
        Due.is("one act", x.count(9), 1);
        Due.is("cases(1)", x.cases(1), 21);
        Due.is("two", x.count(9), 2);
        Due.is("change", x.change(1, 0), true);
        Due.is("three", x.count(9), 3);
        Due.is("hand", x.hand(0, 12), 7);
        Due.is("four", x.count(9), 4);
        Due.is("pot", x.pot(99), 10);
        Due.is("five", x.count(9), 5);
        Due.is("put", x.put(0, 11), 9);
        Due.is("six", x.count(9), 6);
        // The promises refuse a HAND or a POT only by its size: one told as it is goes as an ACT.
        Due.is("the same hand", x.hand(0, 12), 12);
        Due.is("seven", x.count(9), 7);
        Due.is("the same pot", x.pot(99), 99);
        Due.is("eight", x.count(9), 8);
        Due.is("none was refused", x.count(13), 0);
        x.read(1, 1);
        x.image();
        x.feed(0, 0, 0, 0, 0);
        x.forget();
        Due.is("nothing else is one", x.count(9), 8);
    }

    @Says("They are UNDONE, the last one first.")
    private static void lastOneFirst() {
        DregsVerdict x = Due.told("leaf 0 1;leaf 5 2;judge 0 7 0;judge 0 6 0;judge 0 6 0;pot 10;");
        x.put(0, 11);
        x.pot(20);
        x.hand(0, 8);
        x.change(0, 2);
        x.cases(20);
        x.cases(3);
        x.undo();
        Due.is("the case", x.count(2), 20);
        x.undo();
        Due.is("the case", x.count(2), 0);
        Due.is("no verdict", x.count(4), -1);
        lie("cases undone", x, 11, 5);
        x.undo();
        Due.is("seat(0)", x.seat(0), 0);
        Due.is("seat(2)", x.seat(2), 2);
        Due.is("the hand, still", x.judge(0, 1), 8);
        x.undo();
        Due.is("the hand", x.judge(0, 1), 7);
        Due.is("the pot, still", x.count(3), 20);
        x.undo();
        Due.is("the pot", x.count(3), 10);
        lie("still put", x, 11, 5);
        x.undo();
        lie("all undone", x, 0, 5);
        ofAFullBench();
    }

    private static void ofAFullBench() {
        DregsVerdict x = Due.told("leaf 0 1;leaf 1 1;leaf 2 1;leaf 3 1;leaf 4 1;leaf 5 1;leaf 6 1;leaf 7 1;"
            + "judge 0 0 0;judge 0 1 0;judge 0 2 0;judge 0 3 0;judge 0 4 0;judge 0 5 0;judge 0 7 0;judge 0 8 0;pot 99;");
        x.put(7, 11);
        x.change(7, 0);
        x.hand(7, 12);
        x.cases(20);
        x.change(7, 6);
        x.pot(3);
        for (int left = 5; left >= 0; left--) {
            Due.is("undo()", x.undo(), left);
        }
        for (int i = 0; i < 8; i++) {
            Due.is("leaf " + i, x.leaf(i, 0), i);
            Due.is("seat " + i, x.seat(i), i);
            Due.is("the hand of " + i, x.judge(i, 1), i < 6 ? i : i + 1);
        }
        Due.is("the pot", x.count(3), 99);
        Due.is("the case", x.count(2), 0);
        Due.is("no verdict", x.count(4), -1);
    }

    @Says(promise = 10, value = "CASES go by: the CASE.")
    private static void casesGoBy() {
        DregsVerdict x = Due.told("leaf 0 1;judge 0 7 0;pot 10;");
        Due.is("cases(1)", x.cases(1), 1);
        lie("one", x, 1);
        Due.is("cases(20)", x.cases(20), 21);
        lie("21", x, 9);
        Due.is("without a court", new DregsVerdict().cases(20), 20);
    }

    /** Behind 980 cases, with 40 acts of 49 kept. */
    private static DregsVerdict nearTheEnd() {
        DregsVerdict x = Due.told(Whole.TEXT);
        for (int i = 0; i < 49; i++) {
            x.cases(20);
        }
        return x;
    }

    @Says(promise = 10, value = "NONE (STATUS 1): not 1 to 20, it would be above 999.")
    private static void notSoManyCases() {
        DregsVerdict x = new DregsVerdict();
        Due.taken("cases", 1, 20, NONE, x::cases);
        Due.is("refused", x.count(13), 4);
        Due.is("acts", x.count(9), 2);
        Due.is("the case", x.count(2), 21);
        for (int many : new int[] {0, -1, 21, FAR[0], FAR[1]}) {
            Whole.stays("cases(" + many + ")", 1, y -> Due.is("cases(" + many + ")", y.cases(many), NONE));
        }
        Whole.stays("cases(20) behind 980", 1, CaseEdgesTest::nearTheEnd, y -> Due.is("above 999", y.cases(20), NONE));
        DregsVerdict last = nearTheEnd();
        Due.is("up to 999", last.cases(19), 999);
        Due.is("above 999", last.cases(1), NONE);
        Due.is("refused", last.count(13), 1);
        Due.is("the case", last.count(2), 999);
        last.undo();
        Due.is("one step less", last.cases(18), 998);
        Due.is("up to 999", last.cases(1), 999);
        Due.is("above 999", last.cases(20), NONE);
        // Questions look beyond 999: the 60th one from there on is 1058.
        DregsVerdict beyond = Due.told("reads case=1058;");
        for (int i = 0; i < 49; i++) {
            beyond.cases(20);
        }
        beyond.cases(19);
        Due.is("what comes is told all the same", beyond.verdict(60, 0), 1);
        Due.is("and it comes first there", beyond.first(1), 60);
    }

    @Says(promise = 11, value = "Two change SEATS: true.")
    private static void twoChangeSeats() {
        DregsVerdict x = Due.told("judge 0 6 0;".repeat(8));
        Due.is("change(0, 7)", x.change(0, 7), true);
        Due.is("seat(0)", x.seat(0), 7);
        Due.is("seat(7)", x.seat(7), 0);
        Due.is("change(0, 7) again", x.change(0, 7), true);
        Due.is("seat(0)", x.seat(0), 0);
        x.change(0, 1);
        x.change(0, 2);
        Due.is("by judges, not by seats", x.seat(2), 0);
        Due.is("seat(0)", x.seat(0), 1);
        Due.is("seat(1)", x.seat(1), 2);
    }

    @Says(promise = 11, value = "False (STATUS 1): both are one.")
    private static void bothAreOne() {
        Whole.stays("change(0, 0)", 1, x -> Due.is("change(0, 0)", x.change(0, 0), false));
        Whole.stays("change(1, 1)", 1, x -> Due.is("change(1, 1)", x.change(1, 1), false));
        Whole.stays("change(2, 2)", NONE, x -> Due.missing("change(2, 2)", () -> x.change(2, 2) ? 1 : 0));
        Whole.stays("change(0, 2)", NONE, x -> Due.missing("change(0, 2)", () -> x.change(0, 2) ? 1 : 0));
        Due.is("the only one", Due.told("judge 0 6 0;").change(0, 0), false);
    }

    @Says(promise = 12, value = "HAND as it was.")
    private static void handAsItWas() {
        DregsVerdict x = Due.told("leaf 0 1;judge 0 5 0;judge 0 6 0;pot 10;");
        Due.is("hand(0, 0)", x.hand(0, 0), 5);
        Due.is("hand(0, 12)", x.hand(0, 12), 0);
        Due.is("hand(0, 7)", x.hand(0, 7), 12);
        Due.is("another one's", x.hand(1, 8), 6);
        Due.is("it is another", x.judge(0, 1), 7);
        Due.is("it stirs", x.lies(0, 1), 3);
    }

    @Says(promise = 12, value = "NONE (STATUS 1): not 0 to 12.")
    private static void notAHand() {
        DregsVerdict x = Due.told("judge 0 5 0;");
        Due.taken("hand", 0, 12, NONE, hand -> x.hand(0, hand));
        Due.is("refused", x.count(13), 4);
        for (int hand : new int[] {-1, 13, FAR[0], FAR[1]}) {
            Whole.stays("hand " + hand, 1, y -> Due.is("hand(1, " + hand + ")", y.hand(1, hand), NONE));
        }
        Whole.stays("no such judge's hand", NONE, y -> Due.missing("hand(2, 13)", () -> y.hand(2, 13)));
    }

    @Says(promise = 13, value = "THE POT as it was.")
    private static void potAsItWas() {
        DregsVerdict x = new DregsVerdict();
        Due.is("pot(0)", x.pot(0), 60);
        Due.is("pot(99)", x.pot(99), 0);
        Due.is("pot(1)", x.pot(1), 99);
        Due.is("it is another", x.count(3), 1);
        Due.is("it fills the cup", x.verdict(1, 1), 1);
    }

    @Says(promise = 13, value = "NONE (STATUS 1): not 0 to 99.")
    private static void notAPot() {
        DregsVerdict x = new DregsVerdict();
        Due.taken("pot", 0, 99, NONE, x::pot);
        Due.is("refused", x.count(13), 4);
        for (int pot : new int[] {-1, 100, FAR[0], FAR[1]}) {
            Whole.stays("pot " + pot, 1, y -> Due.is("pot(" + pot + ")", y.pot(pot), NONE));
        }
    }

    @Says(promise = 14, value = "A LEAF is put elsewhere: where it was.")
    private static void whereItWas() {
        DregsVerdict x = Due.told(leavesAt(3, 3));
        Due.is("put(0, 11)", x.put(0, 11), 3);
        Due.is("put(0, 0)", x.put(0, 0), 11);
        Due.is("put(0, 1)", x.put(0, 1), 0);
        lie("the other one stays", x, 1, 3);
        Due.is("where another one is", x.put(0, 3), 1);
        Due.is("both", x.heap(3), 3);
    }

    @Says(promise = 14, value = "NONE (STATUS 1): it is there.")
    private static void itIsThere() {
        Whole.stays("put where it is", 1, x -> Due.is("put", x.put(1, x.leaf(1, 0)), NONE));
        DregsVerdict x = Due.told(leavesAt(0, 11));
        Due.is("at 0", x.put(0, 0), NONE);
        Due.is("at 11", x.put(1, 11), NONE);
        Due.is("refused", x.count(13), 2);
        Due.is("elsewhere", x.put(0, 11), 0);
        Due.is("there by now", x.put(0, 11), NONE);
    }

    @Says(promise = 14, value = "NoSuchElementException (ahead): no such LEAF, PLACE.")
    private static void noLeafOrPlaceToPut() {
        int[][] wrong = {{2, 0}, {-1, 0}, {0, 12}, {0, -1}, {2, 12}, {FAR[0], 0}, {FAR[1], 0}, {0, FAR[0]}, {0, FAR[1]}};
        for (int[] w : wrong) {
            Whole.stays("put(" + w[0] + ", " + w[1] + ")", NONE, x -> Due.missing("put", () -> x.put(w[0], w[1])));
        }
    }

    @Says(promise = 15, value = "The last ACT is UNDONE: how many are left.")
    private static void howManyAreLeft() {
        DregsVerdict x = Whole.busy();
        Due.is("undo()", x.undo(), 3);
        Due.is("count(9)", x.count(9), 3);
        Due.is("undo()", x.undo(), 2);
        Due.is("undo()", x.undo(), 1);
        Due.is("the cases are undone", x.count(2), 0);
        Due.is("undo()", x.undo(), 0);
        Due.is("the hand", x.judge(1, 1), 3);
        Due.is("what is READ stays", x.count(10), 2);
        Due.is("STATUS stays", x.count(13), 2);
        Due.is("an act behind it", x.pot(1), 70);
        Due.is("is the only one", x.undo(), 0);
        Due.is("the image stays", x.restore(), true);
    }

    @Says(promise = 15, value = "NONE: there is none.")
    private static void noActIsLeft() {
        Due.is("of a new object", new DregsVerdict().undo(), NONE);
        Due.is("of a new court", Due.told(Whole.TEXT).undo(), NONE);
        Whole.stays("undo() of none", NONE, CaseEdgesTest::withoutActs, x -> Due.is("undo()", x.undo(), NONE));
        DregsVerdict x = withoutActs();
        x.undo();
        Due.is("it is no refused ACT", x.count(13), 2);
        // What was refused is no ACT.
        x.cases(0);
        x.change(0, 0);
        x.hand(0, 13);
        x.pot(100);
        x.put(0, x.leaf(0, 0));
        Due.is("refused ones", x.count(13), 7);
        Due.is("are not kept", x.undo(), NONE);
    }

    private static DregsVerdict withoutActs() {
        DregsVerdict x = Whole.busy();
        for (int i = 0; i < 4; i++) {
            x.undo();
        }
        return x;
    }
}
