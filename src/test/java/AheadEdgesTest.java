/** The boundary cases of what is asked of cases to come: "Terms" from VERDICT to COME, promises 16 to 36. */
public final class AheadEdgesTest {
    private static final int NONE = DregsVerdict.NONE;
    private static final int MIN = Integer.MIN_VALUE;
    private static final int MAX = Integer.MAX_VALUE;

    // The leaf goes one place on in each case; the verdict is its place and 1, MOD 5.
    private static final String WALK = "leaf 0 1;judge 0 7 1;pot 10;";
    // The leaf lies still but in the 60th case, in which it goes from 0 to 1, where it is read.
    private static final String SIXTIETH = "leaf 0 1;judge 0 6 2;judge 0 7 1;pot 10;drinks 10*(case<59);reads where;";
    // The same, but in the 61st case.
    private static final String BEHIND_IT = SIXTIETH.replace("59", "60");

    private AheadEdgesTest() {
    }

    public static void main(String[] args) throws Exception {
        Sayings.run(AheadEdgesTest.class);
    }

    private static void throwsAndStays(String call, int due, java.util.function.ToIntFunction<DregsVerdict> made) {
        Whole.stays(call, NONE, x -> Due.is(call, () -> made.applyAsInt(x), due));
    }

    private static void missing(String call, java.util.function.ToIntFunction<DregsVerdict> made) {
        throwsAndStays(call, Due.NSEE, made);
    }

    private static void unfit(String call, java.util.function.ToIntFunction<DregsVerdict> made) {
        throwsAndStays(call, Due.IAE, made);
    }

    // ---- if only cases go by

    @Says("(If only CASES go by, from now on; the k-th one, 1 on, is the one that comes first:)")
    private static void fromNowOn() {
        DregsVerdict x = Due.told("leaf 0 1;judge 0 7 1;judge 3 6 0;pot 10;drinks case;reads case;");
        for (int gone = 0; gone < 3; gone++) {
            Due.is("verdict(1, 0)", x.verdict(1, 0), gone);
            Due.is("verdict(2, 0)", x.verdict(2, 0), gone + 1);
            Due.is("lies(0, 0)", x.lies(0, 0), gone == 0 ? 0 : 1);
            Due.is("first", x.first(gone), 1);
            Due.is("come", x.come(1), 1 << gone);
            Due.is("nothing goes by", x.count(2), gone);
            x.cases(1);
        }
        // What ACTS changed is so from now on, too.
        x.hand(0, 6);
        x.pot(50);
        Due.is("the leaf lies still", x.lies(0, 60), 1);
        Due.is("the pot", x.verdict(1, 1), 47);
        x.change(0, 1);
        Due.is("who sits first drinks", x.drunk(1, 1), 3);
    }

    @Says("VERDICT of the k-th CASE (1 to 60); LEVEL at its end.")
    private static void verdictAndLevel() {
        DregsVerdict x = Due.told(WALK);
        Due.is("the first", x.verdict(1, 0), 2);
        Due.is("the 11th", x.verdict(11, 0), 2);
        Due.is("the 12th", x.verdict(12, 0), 1);
        Due.is("the 60th", x.verdict(60, 0), 1);
        Due.is("the 59th", Due.told(SIXTIETH).verdict(59, 0), 0);
        Due.is("the 60th", Due.told(SIXTIETH).verdict(60, 0), 1);
        DregsVerdict y = Due.told("judge 0 6 0;judge 0 6 0;pot 50;drinks case;");
        Due.is("all of it is there", y.verdict(1, 1), 50);
        Due.is("1 is left", y.verdict(50, 1), 1);
        Due.is("0 is left", y.verdict(51, 1), 0);
        Due.is("not below 0", y.verdict(60, 1), 0);
        Due.is("without judges", Due.told("pot 99;").verdict(60, 1), 99);
    }

    @Says(promise = 16, value = {"VERDICT (what 0), LEVEL (1).", "NoSuchElementException: another what."})
    private static void anotherWhatOfAVerdict() {
        DregsVerdict x = Whole.busy();
        Due.taken("verdict of a what", 0, 1, Due.NSEE, what -> x.verdict(1, what));
        missing("verdict(1, 2)", y -> y.verdict(1, 2));
        Due.is("VERDICT", Due.told("pot 97;").verdict(1, 0), 0);
        Due.is("LEVEL", Due.told("pot 97;").verdict(1, 1), 97);
    }

    @Says(promise = 16, value = "IllegalArgumentException (behind that): not 1 to 60.")
    private static void notSoFarAVerdict() {
        DregsVerdict x = Whole.busy();
        Due.taken("verdict", 1, 60, Due.IAE, k -> x.verdict(k, 0));
        Due.taken("level", 1, 60, Due.IAE, k -> x.verdict(k, 1));
        unfit("verdict(0, 0)", y -> y.verdict(0, 0));
        unfit("verdict(61, 1)", y -> y.verdict(61, 1));
        missing("verdict(0, 2)", y -> y.verdict(0, 2));
        missing("verdict(61, -1)", y -> y.verdict(61, -1));
    }

    @Says("LIES: where a LEAF is behind so many CASES (0 to 60).")
    private static void behindSoManyCases() {
        DregsVerdict x = Due.told(WALK);
        int[][] want = {{0, 0}, {1, 1}, {11, 11}, {12, 0}, {59, 11}, {60, 0}};
        for (int[] w : want) {
            Due.is("lies(0, " + w[0] + ")", x.lies(0, w[0]), w[1]);
        }
        Due.is("the 59th", Due.told(SIXTIETH).lies(0, 59), 0);
        Due.is("the 60th", Due.told(SIXTIETH).lies(0, 60), 1);
        x.put(0, 7);
        Due.is("where it is now", x.lies(0, 0), 7);
    }

    @Says(promise = 17, value = {"LIES.", "IllegalArgumentException (behind NoSuchElementException): not 0 to 60."})
    private static void notSoFarALeaf() {
        DregsVerdict x = Whole.busy();
        Due.taken("lies", 0, 60, Due.IAE, cases -> x.lies(1, cases));
        unfit("lies(1, -1)", y -> y.lies(1, -1));
        unfit("lies(1, 61)", y -> y.lies(1, 61));
        missing("lies(2, 61)", y -> y.lies(2, 61));
        missing("lies(-1, -1)", y -> y.lies(-1, -1));
    }

    @Says("OFTEN: how often a VERDICT comes in so many CASES (0 to 60).")
    private static void howOften() {
        DregsVerdict x = Due.told(SIXTIETH);
        Due.is("often(0, 0)", x.often(0, 0), 0);
        Due.is("often(0, 1)", x.often(0, 1), 1);
        Due.is("often(0, 60)", x.often(0, 60), 59);
        Due.is("often(1, 59)", x.often(1, 59), 0);
        Due.is("often(1, 60)", x.often(1, 60), 1);
        Due.is("not the 61st", Due.told(BEHIND_IT).often(1, 60), 0);
        Due.is("always", Due.told("reads 4;").often(4, 60), 60);
        Due.is("never", Due.told("reads 4;").often(3, 60), 0);
    }

    @Says(promise = 18, value = {"OFTEN.", "NoSuchElementException: no such VERDICT (as everywhere)."})
    private static void noSuchVerdict() {
        DregsVerdict x = Due.told("leaf 1 1;judge 1 7 1;judge 1 8 2;");
        Due.taken("often", 0, 4, Due.NSEE, v -> x.often(v, 3));
        Due.taken("first", 0, 4, Due.NSEE, x::first);
        Due.taken("orders", 0, 4, Due.NSEE, v -> x.orders(v, -1));
        Due.taken("toTurn", 0, 4, Due.NSEE, x::toTurn);
        Due.taken("toDrink", 0, 4, Due.NSEE, v -> x.toDrink(0, v));
        Due.taken("toPour", 0, 4, Due.NSEE, x::toPour);
        Due.taken("toLay", 0, 4, Due.NSEE, v -> x.toLay(0, v));
        Due.taken("read", 0, 4, Due.NSEE, v -> x.read(1, v));
        missing("often(5, 3)", y -> y.often(5, 3));
        missing("first(5)", y -> y.first(5));
        missing("toTurn(-1)", y -> y.toTurn(-1));
        missing("toDrink(0, 5)", y -> y.toDrink(0, 5));
        missing("toPour(5)", y -> y.toPour(5));
        missing("toLay(0, 5)", y -> y.toLay(0, 5));
    }

    @Says(promise = 18, value = "IllegalArgumentException (behind that): not 0 to 60.")
    private static void notSoOften() {
        DregsVerdict x = Whole.busy();
        Due.taken("often", 0, 60, Due.IAE, cases -> x.often(4, cases));
        unfit("often(0, -1)", y -> y.often(0, -1));
        unfit("often(0, 61)", y -> y.often(0, 61));
        missing("often(5, 61)", y -> y.often(5, 61));
        missing("often(-1, -1)", y -> y.often(-1, -1));
    }

    @Says("FIRST: in which CASE (1 to 60) a VERDICT comes first; none.")
    private static void whichCaseIsFirst() {
        Due.is("the first", Due.told(WALK).first(2), 1);
        Due.is("the second", Due.told(WALK).first(3), 2);
        Due.is("the first of many", Due.told(WALK).first(1), 5);
        Due.is("the 60th", Due.told(SIXTIETH).first(1), 60);
    }

    @Says(promise = 19, value = "FIRST; NONE: none.")
    private static void noneIsFirst() {
        Due.is("the 61st", Due.told(BEHIND_IT).first(1), NONE);
        Due.is("never", Due.told("reads 4;").first(0), NONE);
        DregsVerdict x = Due.told("reads case=0;");
        Due.is("it comes", x.first(1), 1);
        x.cases(1);
        Due.is("it went by", x.first(1), NONE);
    }

    @Says("ROUND: behind how many CASES (1 to 60) all LEAVES first lie as they do now; none.")
    private static void roundAgain() {
        Due.is("lying still", Due.told("leaf 4 1;judge 0 6 0;").round(), 1);
        Due.is("without leaves", Due.told("judge 0 7 0;").round(), 1);
        Due.is("twelve", Due.told(WALK).round(), 12);
        // 6 and 1 places: two cases for one, twelve for both.
        Due.is("all leaves", Due.told("leaf 0 1;leaf 0 6;judge 0 12 0;pot 10;").round(), 12);
        Due.is("the last leaf, too", Due.told("leaf 0 9;".repeat(7) + "leaf 0 6;judge 0 12 0;pot 10;").round(), 12);
        // There in the first case, and back in the one told.
        String back = "leaf 0 1;judge 0 6 0;judge 0 12 0;pot 10;drinks 10*(0<case and case<%d);";
        Due.is("the 2nd", Due.told(String.format(back, 1)).round(), 2);
        Due.is("the 60th", Due.told(String.format(back, 59)).round(), 60);
        DregsVerdict x = Due.told(WALK);
        x.cases(5);
        Due.is("as they do now", x.round(), 12);
    }

    @Says(promise = 20, value = "ROUND; NONE: none.")
    private static void neverRound() {
        Due.is("the 61st", Due.told("leaf 0 1;judge 0 6 0;judge 0 12 0;pot 10;drinks 10*(0<case and case<60);").round(), NONE);
        // One place on in the first case, and never again.
        Due.is("never", Due.told("leaf 0 1;judge 0 6 0;judge 0 7 0;pot 10;drinks 10*(0<case);").round(), NONE);
    }

    @Says("PLEASED: who has one's WISH most often in so many CASES (1 to 60; of like ones the least); none.")
    private static void mostOftenPleased() {
        // The verdict is 0 but in the 60th case, in which it is 1.
        DregsVerdict x = Due.told(SIXTIETH);
        Due.is("none ever: the least", x.pleased(59), 0);
        Due.is("the 60th, too", x.pleased(60), 1);
        Due.is("not the 61st", Due.told(BEHIND_IT).pleased(60), 0);
        // 0 0 0 1 1 1 2 2 2 ..
        DregsVerdict y = Due.told("judge 0 6 2;judge 0 6 1;judge 0 6 0;judge 0 6 0;reads case/3;");
        Due.is("one case", y.pleased(1), 2);
        Due.is("of like ones the least", y.pleased(6), 1);
        Due.is("one less", y.pleased(5), 2);
        Due.is("of three like ones", y.pleased(9), 0);
        Due.is("the last one", Due.told("judge 0 6 0;".repeat(7) + "judge 0 6 4;reads 4;").pleased(60), 7);
    }

    @Says(promise = 21, value = {"PLEASED; NONE: no JUDGES.", "IllegalArgumentException: not 1 to 60."})
    private static void nobodyIsPleased() {
        Due.is("no judges", new DregsVerdict().pleased(60), NONE);
        Due.is("one judge", Due.told("judge 0 6 4;reads 0;").pleased(1), 0);
        Due.taken("pleased", 1, 60, Due.IAE, Whole.busy()::pleased);
        Due.taken("pleased without judges", 1, 60, Due.IAE, new DregsVerdict()::pleased);
        unfit("pleased(0)", y -> y.pleased(0));
        unfit("pleased(61)", y -> y.pleased(61));
    }

    @Says("SWEPT in so many CASES (0 to 60): PLACES at which some LEAF lies now, or behind one of them (bits).")
    private static void placesSwept() {
        DregsVerdict x = Due.told(WALK);
        int[][] want = {{0, 1}, {1, 3}, {10, 2047}, {11, 4095}, {60, 4095}};
        for (int[] w : want) {
            Due.is("swept(" + w[0] + ")", x.swept(w[0]), w[1]);
        }
        Due.is("the 59th", Due.told(SIXTIETH).swept(59), 1);
        Due.is("the 60th", Due.told(SIXTIETH).swept(60), 3);
        // Two judges by 3 each: what lies between is not swept.
        Due.is("behind them", Due.told("leaf 0 1;judge 0 9 0;judge 0 9 0;pot 10;").swept(1), 65);
        Due.is("each leaf", Due.told("leaf 0 1;leaf 11 9;leaf 5 9;judge 0 7 0;pot 10;").swept(1), 1 | 2 | 32 | 2048);
        // By 6 the eighth leaf alone goes on; there are more leaves than judges, and more judges than leaves.
        Due.is("the eighth leaf", Due.told("leaf 0 9;".repeat(7) + "leaf 0 6;judge 0 12 0;pot 10;").swept(1), 3);
        Due.is("one leaf, eight judges", Due.told("leaf 1 1;" + "judge 0 7 0;".repeat(8) + "pot 10;").swept(1), 2 | 512);
    }

    @Says(promise = 22, value = {"SWEPT, as bits.", "IllegalArgumentException: not 0 to 60."})
    private static void notSoFarSwept() {
        Due.is("no leaves", new DregsVerdict().swept(60), 0);
        Due.is("place 11", Due.told("leaf 11 1;").swept(0), 2048);
        Due.taken("swept", 0, 60, Due.IAE, Whole.busy()::swept);
        unfit("swept(-1)", y -> y.swept(-1));
        unfit("swept(61)", y -> y.swept(61));
    }

    // ---- the case that comes

    @Says("(All of the CASE that comes, nothing being changed but what is told:)")
    private static void nothingIsChanged() {
        Whole.Use[] questions = {x -> x.orders(1, -1), x -> x.orders(0, 1), x -> x.decisive(), x -> x.toTurn(3),
            x -> x.toDrink(1, 2), x -> x.toPour(4), x -> x.toLay(1, 4), x -> x.better(0), x -> x.better(1),
            x -> x.stir(1, 1, 77), x -> x.verdict(60, 0), x -> x.lies(0, 60), x -> x.often(1, 60), x -> x.first(4),
            DregsVerdict::round, x -> x.pleased(60), x -> x.swept(60), x -> x.drunk(0, 60), x -> x.thirstiest(60),
            x -> x.streak(60), x -> x.come(60), x -> x.handed(0), x -> x.look(0), x -> x.game(0, 1, 0),
            x -> x.years(7, 60, 0)};
        for (int i = 0; i < questions.length; i++) {
            Whole.stays("question " + i, NONE, questions[i]);
        }
    }

    // Thirst 0 to 5; who sits where one's thirst and seat make 5 drinks 1 of 5: all but the last one do so in one order only.
    private static final String LAST_ORDER = "judge 0 6 0;judge 1 6 0;judge 2 6 0;judge 3 6 0;judge 4 6 0;judge 5 6 0;pot 5;"
        + "drinks thirst+seat=5;reads level=0;";

    @Says("ORDERS of all JUDGES in their SEATS by which a VERDICT comes: how many; the JUDGE in the i-th SEAT of the first one "
        + "(by SEATS; none; with more than 6 JUDGES none is sought).")
    private static void allOrders() {
        DregsVerdict last = Due.told(LAST_ORDER);
        Due.is("the last order alone", last.orders(1, -1), 1);
        DregsVerdict first = Due.told(LAST_ORDER.replace("thirst+seat=5", "thirst=seat"));
        Due.is("the first order alone", first.orders(1, -1), 1);
        for (int i = 0; i < 6; i++) {
            Due.is("seat " + i + " of the last order", last.orders(1, i), 5 - i);
            Due.is("seat " + i + " of the first order", first.orders(1, i), i);
        }
        Due.is("all others", last.orders(0, -1), 719);
        Due.is("the first of all others", last.orders(0, 5), 5);
        // The last one's thirst is what is left: two orders each, of which the first is by seats.
        DregsVerdict x = Due.told("judge 1 6 0;judge 2 6 0;judge 3 6 0;pot 6;reads level;");
        x.change(0, 2);
        int[][] orders = {{1, 2, 0}, {0, 2, 1}, {0, 1, 2}};
        for (int v = 1; v <= 3; v++) {
            Due.is("how many by which " + v + " comes", x.orders(v, -1), 2);
            for (int i = 0; i < 3; i++) {
                Due.is("seat " + i + " for " + v, x.orders(v, i), orders[v - 1][i]);
            }
        }
        Due.is("one judge", Due.told("judge 1 6 0;reads 3;").orders(3, 0), 0);
        Due.is("one judge", Due.told("judge 1 6 0;reads 3;").orders(3, -1), 1);
        Due.is("two judges", Due.told("judge 1 6 0;judge 1 6 0;reads 3;").orders(3, -1), 2);
    }

    @Says(promise = 23, value = "ORDERS: how many (i NONE), who is in the i-th SEAT of the first (NONE: there is none); "
        + "-2: more than 6.")
    private static void howManyOrders() {
        DregsVerdict six = Due.told("judge 1 6 0;".repeat(6) + "reads 3;");
        Due.is("six judges", six.orders(3, NONE), 720);
        Due.is("none", six.orders(2, NONE), 0);
        Due.is("none, seat 0", six.orders(2, 0), NONE);
        Due.is("none, seat 5", six.orders(2, 5), NONE);
        for (int judges = 7; judges <= 8; judges++) {
            DregsVerdict more = Due.told("judge 1 6 0;".repeat(judges) + "reads 3;");
            Due.is("how many", more.orders(3, NONE), -2);
            Due.is("how many that don't come", more.orders(2, NONE), -2);
            Due.is("seat 0", more.orders(3, 0), -2);
            Due.is("the last seat", more.orders(3, judges - 1), -2);
        }
        Due.is("nobody: one order", new DregsVerdict().orders(0, NONE), 1);
        Due.is("nobody: none", new DregsVerdict().orders(1, NONE), 0);
    }

    @Says(promise = 23, value = "NoSuchElementException: no such VERDICT, SEAT.")
    private static void noSuchOrder() {
        for (int judges : new int[] {1, 6, 7, 8}) {
            DregsVerdict x = Due.told("judge 1 6 0;".repeat(judges) + "reads 3;");
            Due.taken("orders of seats, " + judges + " judges", -1, judges - 1, Due.NSEE, i -> x.orders(3, i));
            Due.taken("orders of verdicts, " + judges + " judges", 0, 4, Due.NSEE, v -> x.orders(v, 0));
        }
        Due.missing("no seats", () -> new DregsVerdict().orders(0, 0));
        Due.missing("no seats", () -> new DregsVerdict().orders(0, -2));
        missing("orders(5, -1)", y -> y.orders(5, -1));
        missing("orders(0, 2)", y -> y.orders(0, 2));
        missing("orders(0, -2)", y -> y.orders(0, -2));
    }

    // Each of eight goes one on: 8 places; with m turned 8 - 2m: 6, 4, 2, 0, 10 (or 0, MOD 5), 8 ..
    private static final String EIGHT = "leaf 0 1;" + "judge 0 7 0;".repeat(8) + "pot 10;reads where;";

    @Says("DECISIVE: JUDGES by each of whose HAND, were it alone turned (12 less it), the VERDICT would be another (bits).")
    private static void turnedAlone() {
        Due.is("all eight", Due.told(EIGHT).decisive(), 255);
        Due.is("HAND 6 turned is 6", Due.told(EIGHT.replace(" 7 0;", " 6 0;")).decisive(), 0);
        // 6 by 4 is 1: from 5 to 6, or to 4.
        String one = "leaf 5 4;judge 0 %d 0;pot 10;reads where;";
        Due.is("HAND 0 turned is 12", Due.told(String.format(one, 0)).decisive(), 1);
        Due.is("HAND 12 turned is 0", Due.told(String.format(one, 12)).decisive(), 1);
        Due.is("one of two", Due.told("leaf 5 1;judge 0 7 0;judge 0 6 0;pot 10;reads where;").decisive(), 1);
        Due.is("the other one", Due.told("leaf 5 1;judge 0 6 0;judge 0 7 0;pot 10;reads where;").decisive(), 2);
        // Both turned would be another, but neither alone.
        Due.is("neither alone", Due.told("leaf 0 1;judge 0 7 0;judge 0 7 0;pot 10;reads where=10;").decisive(), 0);
    }

    @Says(promise = 24, value = "DECISIVE, as bits.")
    private static void decisiveAsBits() {
        Due.is("nobody", new DregsVerdict().decisive(), 0);
        Due.is("no leaves", Due.told("judge 0 12 0;judge 0 0 0;").decisive(), 0);
        Due.is("by judges, not by seats", decisiveBehindChange(), 128);
    }

    private static int decisiveBehindChange() {
        DregsVerdict x = Due.told("leaf 5 1;" + "judge 0 6 0;".repeat(7) + "judge 0 7 0;pot 10;reads where;");
        x.change(7, 0);
        return x.decisive();
    }

    @Says("TO TURN: the fewest JUDGES whose HANDS must be turned, all at once, so that a VERDICT comes: of as few the least as "
        + "bits; none.")
    private static void fewestToTurn() {
        DregsVerdict x = Due.told(EIGHT);
        int[] want = {15, 1, 7, 0, 3};
        for (int v = 0; v < 5; v++) {
            Due.is("toTurn(" + v + ")", x.toTurn(v), want[v]);
        }
        // 5 - 2m with m turned is at 7 by all five alone.
        Due.is("all of them", Due.told("leaf 0 1;" + "judge 0 7 0;".repeat(5) + "pot 10;reads where=7;").toTurn(1), 31);
        // 1, 1 and 2 places: judges 0 and 1 (3 as bits) do it together, and judge 2 (4) alone.
        DregsVerdict y = Due.told("leaf 0 1;judge 0 7 0;judge 0 7 0;judge 0 8 0;pot 10;reads where=0;");
        Due.is("fewer rather than less", y.toTurn(1), 4);
        Due.is("of as few the least", Due.told("leaf 0 1;judge 0 7 0;judge 0 7 0;pot 10;reads where=0;").toTurn(1), 1);
        Due.is("the eighth alone", Due.told("leaf 5 1;" + "judge 0 6 0;".repeat(7) + "judge 0 7 0;pot 10;reads where=4;")
            .toTurn(1), 128);
    }

    @Says(promise = 25, value = "TO TURN, as bits (0: it comes); NONE: none.")
    private static void nothingToTurn() {
        Due.is("it comes", Due.told(EIGHT).toTurn(3), 0);
        Due.is("none", Due.told(EIGHT.replace("reads where", "reads where=1")).toTurn(1), NONE);
        Due.is("nobody: it comes", new DregsVerdict().toTurn(0), 0);
        Due.is("nobody: none", new DregsVerdict().toTurn(1), NONE);
    }

    @Says("TO DRINK: the least THIRST (0 to 30) that a JUDGE must have, so that a VERDICT comes; none.")
    private static void leastThirst() {
        String two = "judge 9 6 0;judge 9 6 0;pot 60;reads level<%d;";
        Due.is("THIRST 0", Due.told(String.format(two, 61)).toDrink(0, 1), 0);
        Due.is("THIRST 1", Due.told(String.format(two, 60)).toDrink(0, 1), 1);
        Due.is("THIRST 30", Due.told(String.format(two, 31)).toDrink(0, 1), 30);
        Due.is("another VERDICT", Due.told(String.format(two, 31)).toDrink(0, 0), 0);
        Due.is("by DRINKS", Due.told("judge 9 6 0;judge 9 6 0;pot 60;drinks 2*thirst;reads level=0;").toDrink(0, 1), 30);
        DregsVerdict x = Due.told("judge 9 6 0;judge 9 6 0;pot 60;reads level=50;");
        x.change(0, 1);
        Due.is("who sits first", x.toDrink(1, 1), 10);
        // The first one is in the last SEAT, and drinks nothing.
        DregsVerdict eight = Due.told("judge 1 6 0;".repeat(7) + "judge 9 6 0;pot 60;reads level=42;");
        eight.change(7, 0);
        Due.is("the eighth: 12, and six by 1", eight.toDrink(7, 1), 12);
        Due.is("the eighth one's stays: 4, 9, and five by 1", eight.toDrink(6, 1), 4);
        Due.is("another one's stays", Due.told("judge 9 6 0;judge 9 6 0;judge 0 6 0;pot 60;reads level=50;").toDrink(1, 1), 1);
    }

    @Says(promise = 26, value = "TO DRINK; NONE: none.")
    private static void noThirstIsEnough() {
        Due.is("THIRST 31", Due.told("judge 9 6 0;judge 9 6 0;pot 60;reads level<30;").toDrink(0, 1), NONE);
        Due.is("the last one", Due.told("judge 9 6 0;judge 9 6 0;pot 60;reads level=60;").toDrink(1, 1), NONE);
        Due.is("the last one, as it is", Due.told("judge 9 6 0;judge 9 6 0;pot 60;reads level=51;").toDrink(1, 1), 0);
        Due.is("DRINKS without it", Due.told("judge 9 6 0;judge 9 6 0;pot 60;drinks 7;reads level=52;").toDrink(0, 1), NONE);
        missing("toDrink(2, 0)", y -> y.toDrink(2, 0));
        missing("toDrink(-1, 0)", y -> y.toDrink(-1, 0));
    }

    @Says("TO POUR: the least POT (0 to 99) by which a VERDICT comes; none.")
    private static void leastPot() {
        Due.is("POT 0", Due.told("reads level=0;").toPour(1), 0);
        Due.is("not below 0", Due.told("reads level<1;").toPour(1), 0);
        Due.is("POT 1", Due.told("reads 0<level;").toPour(1), 1);
        Due.is("POT 99", Due.told("reads level=99;").toPour(1), 99);
        Due.is("the least", Due.told("reads level=98 or level=3;").toPour(1), 3);
        Due.is("each from now on", Due.told("leaf 0 1;judge 0 7 0;reads where=3;").toPour(1), 30);
    }

    @Says(promise = 27, value = "TO POUR; NONE: none.")
    private static void noPotIsEnough() {
        Due.is("POT 100", Due.told("reads 99<level;").toPour(1), NONE);
        Due.is("never", Due.told("reads 2;").toPour(1), NONE);
        Due.is("below 0", Due.told("reads level<0;").toPour(1), NONE);
    }

    @Says("TO LAY: the least PLACE at which a LEAF must lie now, so that a VERDICT comes; none.")
    private static void leastPlace() {
        String one = "leaf 5 1;leaf 6 9;judge 0 6 0;reads ";
        Due.is("PLACE 0", Due.told(one + "where=0;").toLay(0, 1), 0);
        Due.is("PLACE 11", Due.told("leaf 5 1;reads where=11;").toLay(0, 1), 11);
        Due.is("the least", Due.told("leaf 5 1;reads where=9 or where=2;").toLay(0, 1), 2);
        Due.is("as it is", Due.told("leaf 0 1;reads where=0;").toLay(0, 1), 0);
        Due.is("the last of eight", Due.told("leaf 5 1;".repeat(7) + "leaf 4 1;reads most=8;").toLay(7, 1), 5);
        Due.is("round the ring", Due.told("leaf 5 1;judge 0 7 0;pot 10;reads where=0;").toLay(0, 1), 11);
    }

    @Says(promise = 28, value = "TO LAY; NONE: none.")
    private static void noPlaceIsGood() {
        Due.is("PLACE 12", Due.told("leaf 5 1;reads 11<where;").toLay(0, 1), NONE);
        Due.is("never", Due.told("leaf 5 1;reads 2;").toLay(0, 1), NONE);
        missing("toLay(2, 0)", y -> y.toLay(2, 0));
        missing("toLay(-1, 0)", y -> y.toLay(-1, 0));
    }

    @Says("BETTER SEATS for one: the JUDGE (of like ones the least) by changing SEATS with whom one would have one's WISH, if "
        + "one hasn't it; none.")
    private static void betterSeats() {
        // The last one's thirst is what is left of all of them.
        DregsVerdict x = Due.told("judge 1 6 1;judge 2 6 2;judge 3 6 2;pot 6;reads level;");
        Due.is("by the last one", x.better(0), 2);
        Due.is("by the last one", x.better(1), 2);
        Due.is("the last one by the second one", x.better(2), 1);
        Due.is("no way", Due.told("judge 0 6 0;judge 0 6 1;judge 0 6 0;reads 0;").better(1), NONE);
        DregsVerdict likes = Due.told("judge 5 6 1;judge 0 6 0;judge 0 6 0;judge 0 6 0;pot 20;drinks thirst*(seat<1);"
            + "reads level=20;");
        // In any other SEAT the first one does not drink: of three like ones the least.
        Due.is("of like ones the least", likes.better(0), 1);
    }

    @Says(promise = 29, value = "BETTER SEATS; NONE: none, one has it.")
    private static void noBetterSeat() {
        Due.is("alone", Due.told("judge 1 6 1;reads 0;").better(0), NONE);
        Due.is("alone, and has it", Due.told("judge 1 6 1;reads 1;").better(0), NONE);
        DregsVerdict x = Due.told("judge 1 6 3;judge 2 6 3;judge 3 6 3;pot 6;reads level;");
        // It is 3 now; by changing with the last one it would be 1, or 2.
        Due.is("has it", x.better(0), NONE);
        Due.is("has it", x.better(2), NONE);
        x.change(0, 2);
        Due.is("has it not any more", x.better(2), 0);
        Due.is("none", Due.told("judge 0 6 4;judge 0 6 4;reads 0;").better(1), NONE);
        missing("better(2)", y -> y.better(2));
        missing("better(-1)", y -> y.better(-1));
    }

    @Says("A STIR of one now: where a LEAF would be, did that JUDGE stir the cup now, LEVEL being so much (0 to 99; nobody "
        + "drinks, or blows).")
    private static void stirredNow() {
        DregsVerdict x = Due.told("leaf 4 1;leaf 4 1;leaf 4 9;judge 30 7 0;barrister 30 5 0;barrister 30 12 0;pot 0;drinks 9999;");
        int[][] on = {{0, 4}, {9, 4}, {10, 5}, {19, 5}, {90, 1}, {99, 1}};
        int[][] back = {{0, 4}, {9, 4}, {10, 3}, {19, 3}, {90, 7}, {99, 7}};
        for (int i = 0; i < on.length; i++) {
            Due.is("on at " + on[i][0], x.stir(0, 0, on[i][0]), on[i][1]);
            Due.is("back at " + back[i][0], x.stir(1, 1, back[i][0]), back[i][1]);
        }
        Due.is("a heavy leaf at 10", x.stir(2, 2, 10), 4);
        Due.is("a heavy leaf at 20", x.stir(2, 2, 20), 5);
        x.hand(0, 6);
        Due.is("by the HAND as it is now", x.stir(0, 0, 99), 4);
        x.put(0, 11);
        x.hand(0, 7);
        Due.is("from where it is now", x.stir(0, 0, 10), 0);
    }

    @Says(promise = 30, value = {"A STIR.", "IllegalArgumentException (behind NoSuchElementException): not 0 to 99."})
    private static void notSuchALevel() {
        DregsVerdict x = Whole.busy();
        Due.taken("stir", 0, 99, Due.IAE, level -> x.stir(1, 1, level));
        unfit("stir(0, 0, -1)", y -> y.stir(0, 0, -1));
        unfit("stir(0, 0, 100)", y -> y.stir(0, 0, 100));
        missing("stir(2, 0, 100)", y -> y.stir(2, 0, 100));
        missing("stir(0, 2, 100)", y -> y.stir(0, 2, 100));
        missing("stir(-1, -1, -1)", y -> y.stir(-1, -1, -1));
    }

    @Says("APART: by how many PLACES two LEAVES are, the shorter way.")
    private static void theShorterWay() {
        int[] way = {0, 1, 2, 3, 4, 5, 6, 5, 4, 3, 2, 1};
        for (int from = 0; from < 12; from++) {
            for (int on = 0; on < 12; on++) {
                DregsVerdict x = Due.told("leaf " + from + " 1;leaf " + (from + on) % 12 + " 1;");
                Due.is("from " + from + ", " + on + " on", x.apart(0, 1), way[on]);
            }
        }
    }

    @Says(promise = 31, value = "APART.")
    private static void apartFromOneself() {
        DregsVerdict x = Due.told("leaf 0 1;leaf 11 1;");
        Due.is("both ways", x.apart(1, 0), 1);
        Due.is("one and the same", x.apart(1, 1), 0);
        missing("apart(0, 2)", y -> y.apart(0, 2));
        missing("apart(2, 0)", y -> y.apart(2, 0));
        missing("apart(-1, 0)", y -> y.apart(-1, 0));
    }

    @Says("A GAP: the most PLACES side by side without LEAVES (12 without any).")
    private static void theWidestGap() {
        Due.is("without any", Due.told("judge 1 1 1;").count(8), 12);
        for (int place = 0; place < 12; place++) {
            DregsVerdict x = Due.told("leaf " + place + " 1;");
            Due.is("one leaf at " + place, x.count(8), 11);
            DregsVerdict y = Due.told("leaf " + place + " 1;leaf " + (place + 4) % 12 + " 1;");
            Due.is("7 and 3, from " + place, y.count(8), 7);
            DregsVerdict z = Due.told("leaf " + place + " 1;leaf " + (place + 6) % 12 + " 1;");
            Due.is("5 and 5, from " + place, z.count(8), 5);
        }
        Due.is("eight leaves", Due.told("leaf 0 1;leaf 1 1;leaf 2 1;leaf 3 1;leaf 4 1;leaf 5 1;leaf 6 1;leaf 7 1;").count(8), 4);
    }

    @Says({"HEAP: LEAVES at a PLACE (bits).", "PARTIES: JUDGES who have one WISH (bits)."})
    private static void heapsAndParties() {
        DregsVerdict x = Due.told("leaf 0 1;leaf 11 1;leaf 0 1;judge 0 6 4;judge 0 6 0;judge 0 6 4;");
        Due.is("heap(0)", x.heap(0), 5);
        Due.is("heap(11)", x.heap(11), 2);
        Due.is("heap(5)", x.heap(5), 0);
        x.put(1, 0);
        Due.is("as they lie now", x.heap(0), 7);
        Due.is("the party of 4", x.judge(0, 5), 5);
        Due.is("the party of 0", x.judge(1, 5), 2);
    }

    @Says(promise = 36, value = "WEIGHT of all LEAVES at a PLACE.")
    private static void weightAtAPlace() {
        DregsVerdict x = Due.told("leaf 11 9;".repeat(7) + "leaf 0 1;");
        Due.is("at 11", x.weight(11), 63);
        Due.is("at 0", x.weight(0), 1);
        Due.is("where none is", x.weight(10), 0);
        x.put(7, 11);
        Due.is("as they lie now", x.weight(11), 64);
        Due.is("gone from there", x.weight(0), 0);
        Due.is("all eight", Due.told("leaf 3 9;".repeat(8)).weight(3), 72);
        missing("weight(12)", y -> y.weight(12));
        missing("weight(-1)", y -> y.weight(-1));
    }

    // ---- who drinks, and what comes

    @Says({"(If only CASES go by, from now on:)", "DRUNK: how much one drinks in the k-th CASE (1 to 60)."})
    private static void howMuchOneDrinks() {
        DregsVerdict x = Due.told("judge 0 6 0;judge 0 6 0;pot 99;drinks case;");
        Due.is("the first", x.drunk(0, 1), 0);
        Due.is("the second", x.drunk(0, 2), 1);
        Due.is("the 60th", x.drunk(0, 60), 59);
        Due.is("in the last SEAT", x.drunk(1, 60), 0);
        x.cases(20);
        Due.is("from now on", x.drunk(0, 1), 20);
        Due.is("no more than there is", x.drunk(0, 60), 79);
        x.pot(30);
        Due.is("no more than there is", x.drunk(0, 60), 30);
        x.change(0, 1);
        Due.is("the other one now", x.drunk(1, 1), 20);
        Due.is("in the last SEAT", x.drunk(0, 1), 0);
    }

    @Says(promise = 32, value = {"DRUNK.", "IllegalArgumentException (behind NoSuchElementException): not 1 to 60."})
    private static void notSoFarDrunk() {
        DregsVerdict x = Whole.busy();
        Due.taken("drunk", 1, 60, Due.IAE, k -> x.drunk(1, k));
        unfit("drunk(0, 0)", y -> y.drunk(0, 0));
        unfit("drunk(0, 61)", y -> y.drunk(0, 61));
        missing("drunk(2, 61)", y -> y.drunk(2, 61));
        missing("drunk(-1, 0)", y -> y.drunk(-1, 0));
    }

    @Says("THIRSTIEST: who drinks most in so many CASES (1 to 60; of like ones the least); none.")
    private static void whoDrinksMost() {
        // The second one drinks 1 in each case; the first one 59 in the 60th alone; the third one, last, nothing.
        DregsVerdict x = Due.told("judge 0 6 0;judge 0 6 0;judge 9 6 0;pot 99;drinks (seat=1)+60*(seat=0 and case=59);");
        Due.is("one case", x.thirstiest(1), 1);
        Due.is("59 cases", x.thirstiest(59), 1);
        Due.is("like ones: 60 and 60", x.thirstiest(60), 0);
        x.cases(1);
        Due.is("the 60th is the 59th by now", x.thirstiest(59), 0);
        Due.is("the last one drinks nothing", Due.told("judge 1 6 0;judge 30 6 0;").thirstiest(60), 0);
        Due.is("nobody drinks: the least", Due.told("judge 0 6 0;judge 0 6 0;").thirstiest(60), 0);
        Due.is("the seventh of eight", Due.told("judge 1 6 0;".repeat(6) + "judge 2 6 0;judge 9 6 0;").thirstiest(1), 6);
        DregsVerdict eight = Due.told("judge 1 6 0;".repeat(7) + "judge 2 6 0;");
        eight.change(7, 3);
        Due.is("the eighth, in another SEAT", eight.thirstiest(60), 7);
        // 30, 28, 26 .. against 29 in each case.
        DregsVerdict less = Due.told("judge 30 6 0;judge 29 6 0;judge 0 6 0;pot 99;drinks thirst-2*case*(seat=0);");
        Due.is("58 and 58", less.thirstiest(2), 0);
        Due.is("84 and 87", less.thirstiest(3), 1);
    }

    @Says(promise = 33, value = {"THIRSTIEST; NONE: no JUDGES.", "IllegalArgumentException: not 1 to 60."})
    private static void nobodyIsThirsty() {
        Due.is("no judges", new DregsVerdict().thirstiest(60), NONE);
        Due.is("one judge", Due.told("judge 30 6 0;").thirstiest(1), 0);
        Due.taken("thirstiest", 1, 60, Due.IAE, Whole.busy()::thirstiest);
        Due.taken("thirstiest without judges", 1, 60, Due.IAE, new DregsVerdict()::thirstiest);
        unfit("thirstiest(0)", y -> y.thirstiest(0));
        unfit("thirstiest(61)", y -> y.thirstiest(61));
    }

    @Says("A STREAK: the longest row of one VERDICT in so many CASES (1 to 60), one behind the other.")
    private static void longestRow() {
        Due.is("one case", Due.told(WALK).streak(1), 1);
        Due.is("no two alike", Due.told("reads case;").streak(60), 1);
        Due.is("all alike", Due.told("reads 3;").streak(60), 60);
        Due.is("all but the last", Due.told(SIXTIETH).streak(60), 59);
        Due.is("59 of them", Due.told(SIXTIETH).streak(59), 59);
        Due.is("the last is of it, too", Due.told(BEHIND_IT).streak(60), 60);
        Due.is("the first alone is not", Due.told("reads case=0;").streak(60), 59);
        // 0 0 1 1 1 0 0: not four of 0, but three of 1.
        Due.is("one behind the other", Due.told("reads 1<case and case<5;").streak(7), 3);
        Due.is("four at the end", Due.told("reads 1<case and case<5;").streak(9), 4);
        DregsVerdict x = Due.told("reads 3;");
        x.cases(5);
        Due.is("what went by is not of it", x.streak(2), 2);
    }

    @Says(promise = 34, value = {"A STREAK.", "IllegalArgumentException: not 1 to 60."})
    private static void notSoLongAStreak() {
        Due.is("without a court", new DregsVerdict().streak(60), 60);
        Due.taken("streak", 1, 60, Due.IAE, Whole.busy()::streak);
        unfit("streak(0)", y -> y.streak(0));
        unfit("streak(61)", y -> y.streak(61));
    }

    @Says("COME: VERDICTS that come in so many CASES (0 to 60), as bits.")
    private static void verdictsThatCome() {
        Due.is("no cases", Due.told(WALK).come(0), 0);
        Due.is("one case", Due.told(WALK).come(1), 4);
        Due.is("four cases", Due.told(WALK).come(4), 29);
        Due.is("five cases", Due.told(WALK).come(5), 31);
        Due.is("59 cases", Due.told(SIXTIETH).come(59), 1);
        Due.is("60 cases", Due.told(SIXTIETH).come(60), 3);
        Due.is("not the 61st", Due.told(BEHIND_IT).come(60), 1);
    }

    @Says(promise = 35, value = {"COME, as bits.", "IllegalArgumentException: not 0 to 60."})
    private static void notSoFarToCome() {
        Due.is("VERDICT 4", Due.told("reads 4;").come(60), 16);
        Due.is("VERDICT 0", Due.told("reads 0;").come(1), 1);
        Due.taken("come", 0, 60, Due.IAE, Whole.busy()::come);
        unfit("come(-1)", y -> y.come(-1));
        unfit("come(61)", y -> y.come(61));
        unfit("come(" + MIN + ")", y -> y.come(MIN));
        unfit("come(" + MAX + ")", y -> y.come(MAX));
    }
}
