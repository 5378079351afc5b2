/** The boundary cases of what is READ, games, years, STATUS and images: "Terms" from READ on, promises 37 to 44. */
public final class ReadEdgesTest {
    private static final int NONE = DregsVerdict.NONE;
    private static final int MIN = Integer.MIN_VALUE;
    private static final int MAX = Integer.MAX_VALUE;

    // By HAND 12 the leaf goes one place on, by HAND 0 one back, by all others it lies still.
    private static final String HEAVY = "leaf 0 6;judge 0 6 0;pot 10;";
    // Who sits first stirs a cup that is not empty; nobody else does.
    private static final String FIRST_OF_EIGHT = "leaf 0 6;" + "judge 0 6 0;".repeat(8) + "pot 10;drinks 10*(seat=1);reads where=1;";

    private ReadEdgesTest() {
    }

    public static void main(String[] args) throws Exception {
        Sayings.run(ReadEdgesTest.class);
    }

    private static void missing(String call, java.util.function.ToIntFunction<DregsVerdict> made) {
        Whole.stays(call, NONE, x -> Due.missing(call, () -> made.applyAsInt(x)));
    }

    private static void unfit(String call, java.util.function.ToIntFunction<DregsVerdict> made) {
        Whole.stays(call, NONE, x -> Due.unfit(call, () -> made.applyAsInt(x)));
    }

    @Says("An object is used for at most 512 calls after it has been made; what later calls answer is free.")
    private static void fiveHundredAndTwelveCalls() {
        DregsVerdict x = new DregsVerdict();
        for (int i = 1; i <= 511; i++) {
            Due.is("call " + i, x.pot(i % 100), i == 1 ? 60 : (i - 1) % 100);
        }
        Due.is("the 512th call", x.undo(), 39);
        DregsVerdict y = Due.told(Whole.TEXT);
        for (int i = 1; i <= 511 - 6; i++) {
            Due.is("refused call " + i, y.cases(0), NONE);
        }
        Due.is("the 512th call", y.count(13), 505);
    }

    // ---- what is read

    @Says("READ (at most 8): that the VERDICT of the k-th CASE (1 to 20) was a told one.")
    private static void atMostEight() {
        DregsVerdict x = Due.told(HEAVY + "reads where;");
        Due.is("nothing is READ", x.count(10), 0);
        for (int i = 1; i <= 7; i++) {
            Due.is("read(" + i + ", 0)", x.read(i, 0), i);
        }
        Due.is("so without", x.handed(2), 1);
        // By HAND 12 it would be 3 in the 20th case (8, MOD 5), and 1 in the first one.
        Due.is("the eighth", x.read(20, 3), 8);
        Due.is("the eighth counts, too", x.handed(2), 0);
        Due.is("and so do the others", x.handed(0), 0);
        Due.is("the ninth", x.read(8, 0), NONE);
        Due.is("eight", x.count(10), 8);
        x.forget();
        Due.is("again", x.read(20, 3), 1);
        Due.is("the 20th case by HAND 12", x.handed(0), 1);
        Due.is("the 20th case by HAND 12", x.handed(1), 12);
        // One case may be READ again, and otherwise.
        Due.is("the same", x.read(20, 3), 2);
        Due.is("as before", x.handed(1), 12);
        Due.is("another of the same case", x.read(20, 2), 3);
        Due.is("none can be so", x.handed(0), 0);
    }

    @Says(promise = 37, value = {"READ: how much is.", "NONE (STATUS 2): there are 8, not 1 to 20."})
    private static void notToBeRead() {
        DregsVerdict x = Due.told(Whole.TEXT);
        Due.taken("read", 1, 20, NONE, k -> x.read(k, 4));
        Due.is("two are READ", x.count(10), 2);
        Due.is("refused", x.count(14), 4);
        Due.is("no other STATUS", x.count(12) + x.count(13), 0);
        for (int k : new int[] {0, -1, 21, MIN, MAX}) {
            Whole.stays("read(" + k + ", 0)", 2, y -> Due.is("read", y.read(k, 0), NONE));
        }
        Whole.stays("the ninth", 2, ReadEdgesTest::eightRead, y -> Due.is("read(1, 0)", y.read(1, 0), NONE));
        Whole.stays("the ninth, of no such case", 2, ReadEdgesTest::eightRead, y -> Due.is("read(21, 0)", y.read(21, 0), NONE));
        DregsVerdict z = eightRead();
        z.forget();
        Due.is("room again", z.read(1, 0), 1);
    }

    private static DregsVerdict eightRead() {
        DregsVerdict x = Whole.busy();
        for (int i = 3; i <= 8; i++) {
            Due.is("read", x.read(i, x.verdict(i, 0)), i);
        }
        return x;
    }

    @Says(promise = 37, value = "NoSuchElementException (ahead): no such VERDICT.")
    private static void noSuchVerdictToRead() {
        for (int verdict : new int[] {-1, 5, MIN, MAX}) {
            missing("read(1, " + verdict + ")", x -> x.read(1, verdict));
            missing("read(0, " + verdict + ")", x -> x.read(0, verdict));
            missing("read(21, " + verdict + ")", x -> x.read(21, verdict));
            Whole.stays("the ninth, of no such VERDICT", NONE, ReadEdgesTest::eightRead,
                x -> Due.missing("read(1, " + verdict + ")", () -> x.read(1, verdict)));
        }
    }

    @Says("HANDED: JUDGES and HANDS (0 to 12, another one than one has) by one of which from now on all READ would be so: "
        + "how many; the first (100 by who, and the HAND); whether it is so without (1).")
    private static void otherHands() {
        DregsVerdict x = Due.told(HEAVY + "reads where=1;");
        x.read(1, 1);
        Due.is("HAND 12", x.handed(1), 12);
        Due.is("alone", x.handed(0), 1);
        Due.is("not so without", x.handed(2), 0);
        x.hand(0, 12);
        Due.is("another one than one has", x.handed(0), 0);
        Due.is("so without", x.handed(2), 1);
        DregsVerdict y = Due.told(HEAVY + "reads where=11;");
        y.read(1, 1);
        Due.is("HAND 0", y.handed(1), 0);
        Due.is("alone", y.handed(0), 1);
        DregsVerdict z = Due.told(FIRST_OF_EIGHT);
        z.read(1, 1);
        Due.is("who sits first", z.handed(1), 12);
        z.change(0, 7);
        Due.is("the eighth judge", z.handed(1), 712);
        Due.is("alone", z.handed(0), 1);
        z.cases(1);
        Due.is("from now on", z.handed(1), 712);
        z.hand(7, 12);
        z.cases(1);
        // The leaf is at 1 by now: it is so by any HAND of the seven who stir nothing, and by any but two of the eighth one.
        z.hand(7, 6);
        Due.is("from now on, without", z.handed(2), 1);
        Due.is("from now on", z.handed(0), 7 * 12 + 10);
        Due.is("the first one", z.handed(1), 0);
    }

    @Says(promise = 38, value = "HANDED: how many (what 0), the first (1; NONE: none), whether without (2).")
    private static void howManyHands() {
        DregsVerdict nobody = new DregsVerdict();
        Due.is("nobody", nobody.handed(0), 0);
        Due.is("nobody", nobody.handed(1), NONE);
        Due.is("nothing READ is so", nobody.handed(2), 1);
        nobody.read(1, 1);
        Due.is("not so", nobody.handed(2), 0);
        DregsVerdict one = Due.told("judge 0 0 0;");
        Due.is("nothing READ: all others", one.handed(0), 12);
        Due.is("the first that is another", one.handed(1), 1);
        DregsVerdict eight = Due.told("judge 0 12 0;".repeat(8));
        Due.is("of eight", eight.handed(0), 96);
        Due.is("the first", eight.handed(1), 0);
        eight.read(20, 1);
        Due.is("none", eight.handed(0), 0);
        Due.is("none", eight.handed(1), NONE);
        Due.is("not so without", eight.handed(2), 0);
        eight.forget();
        Due.is("nothing READ any more", eight.handed(0), 96);
    }

    @Says(promise = 38, value = "NoSuchElementException: another what.")
    private static void anotherWhatOfHanded() {
        Due.taken("handed", 0, 2, Due.NSEE, Whole.busy()::handed);
        missing("handed(3)", x -> x.handed(3));
        missing("handed(-1)", x -> x.handed(-1));
    }

    @Says("LOOK NEXT: the CASE (1 to 20; of like ones the first) of which the VERDICT by these would be most unlike: how many "
        + "unlike ones; none without any.")
    private static void mostUnlike() {
        int[][] want = {{0, 1}, {1, 2}, {18, 19}, {19, 20}};
        for (int[] w : want) {
            DregsVerdict x = Due.told(HEAVY + "reads (case=" + w[0] + ")*(0<where);");
            // Behind 12 cases the leaf is at 0 again, but not behind 1, 2, 19 or 20.
            Due.is("the case " + w[1], x.look(0), w[1]);
            Due.is("0 and 1", x.look(1), 2);
        }
        DregsVerdict beyond = Due.told(HEAVY + "reads (case=20)*(0<where);");
        Due.is("the 21st is not looked at", beyond.look(0), 1);
        Due.is("all alike", beyond.look(1), 1);
        DregsVerdict like = Due.told(HEAVY + "reads (case=5 or case=7)*(0<where);");
        Due.is("of like ones the first", like.look(0), 6);
        // 0, 1 and 11 (1, MOD 5) in the first case; 0, 2 and 10 (0); 0, 3 and 9 (4): three of them.
        Due.is("more unlike ones", Due.told(HEAVY + "reads where;").look(0), 3);
        Due.is("three", Due.told(HEAVY + "reads where;").look(1), 3);
        // The HAND that one has is none of these: by it alone it would be 1 in the first case.
        DregsVerdict own = Due.told("leaf 0 6;judge 0 12 0;pot 10;reads (case=0)*(where=1);");
        Due.is("without one's own", own.look(1), 1);
        // HANDS 0 to 12 don't stir a leaf of 7; -1 and 13 would.
        Due.is("HANDS 0 to 12", Due.told("leaf 0 7;judge 0 6 0;pot 10;reads 0<where;").look(1), 1);
        // The eighth judge alone stirs: by one's HANDS it is 0, 1 and 11 (1) in the first case, and so on as above.
        DregsVerdict eighth = Due.told(FIRST_OF_EIGHT.replace("where=1", "where"));
        eighth.change(0, 7);
        eighth.read(1, 1);
        Due.is("by the eighth of eight judges", eighth.look(0), 2);
        Due.is("2 and 10", eighth.look(1), 2);
        DregsVerdict leaves = Due.told("leaf 0 6;leaf 0 9;judge 0 6 0;pot 10;reads most;");
        Due.is("more leaves than judges", leaves.look(1), 2);
        DregsVerdict five = Due.told("leaf 0 1;judge 0 6 0;pot 10;reads where;");
        Due.is("all five", five.look(1), 5);
        Due.is("in the first case", five.look(0), 1);
        five.read(1, 1);
        // 1, 6 and 11 are left, by HANDS 7, 12 (or 0) and 5: 2, 0, 10 in the second case; 3, 6, 9 in the third.
        Due.is("by these", five.look(0), 3);
        Due.is("by these", five.look(1), 3);
    }

    @Says(promise = 39, value = "LOOK NEXT: the CASE (what 0; NONE), how many (1; 0: none).")
    private static void nothingToLookAt() {
        Due.is("nobody", new DregsVerdict().look(0), NONE);
        Due.is("nobody", new DregsVerdict().look(1), 0);
        DregsVerdict x = Due.told(HEAVY + "reads where=1;");
        Due.is("nothing READ", x.look(1), 2);
        x.read(1, 1);
        Due.is("one hand is left", x.look(1), 1);
        Due.is("the first case", x.look(0), 1);
        x.read(20, 1);
        // By HAND 12 it is not so in the 20th case.
        Due.is("none is left", x.look(0), NONE);
        Due.is("none is left", x.look(1), 0);
        x.forget();
        Due.is("nothing READ", x.look(1), 2);
    }

    @Says(promise = 39, value = "NoSuchElementException: another what.")
    private static void anotherWhatOfLook() {
        Due.taken("look", 0, 1, Due.NSEE, Whole.busy()::look);
        missing("look(2)", x -> x.look(2));
        missing("look(-1)", x -> x.look(-1));
    }

    @Says(promise = 40, value = "All that is READ is forgotten.")
    private static void allIsForgotten() {
        DregsVerdict x = eightRead();
        x.forget();
        Due.is("nothing is READ", x.count(10), 0);
        Due.is("it is so without", x.handed(2), 1);
        Due.is("ACTS stay", x.count(9), 4);
        Due.is("STATUS stays", x.count(14), 1);
        Due.is("the image stays", x.restore(), true);
        Due.is("what was READ then", x.count(10), 1);
        Whole.stays("forget() of nothing", NONE, () -> Due.told(Whole.TEXT), DregsVerdict::forget);
        DregsVerdict y = new DregsVerdict();
        y.forget();
        Due.is("of a new object", y.count(10), 0);
    }

    // ---- a game

    // It is 3; with the first one turned 1, with the other one 11 (1, MOD 5), with both 9 (4, MOD 5).
    private static DregsVerdict game(int wish, int other) {
        return Due.told("leaf 0 1;judge 0 7 " + wish + ";judge 0 8 " + other + ";pot 10;reads where;");
    }

    @Says("A GAME of two JUDGES in the CASE that comes: each turns the HAND, or not (1, 0): each gains 5, if one's WISH is the "
        + "VERDICT, and loses 1, if one turned it. A couple RESTS, if neither gains more by the other choice: how many; the "
        + "first (10 by the first one's, and the other one's).")
    private static void couplesThatRest() {
        // Wishes, how many couples rest, the first one.
        int[][] games = {{3, 3, 1, 0}, {0, 0, 1, 0}, {4, 4, 2, 0}, {1, 1, 2, 1}, {1, 0, 1, 10}, {0, 1, 1, 1}, {1, 4, 0, -1},
            {4, 1, 0, -1}, {3, 1, 1, 1}, {1, 3, 1, 10}};
        for (int[] g : games) {
            DregsVerdict x = game(g[0], g[1]);
            Due.is("how many by " + g[0] + " and " + g[1], x.game(0, 1, 0), g[2]);
            Due.is("the first by " + g[0] + " and " + g[1], x.game(0, 1, 1), g[3]);
            Due.is("how many, the other way round", x.game(1, 0, 0), g[2]);
        }
        Due.is("the other one's first", game(1, 0).game(1, 0, 1), 1);
        Due.is("the other one's first", game(0, 1).game(1, 0, 1), 10);
        for (int wish = 2; wish <= 3; wish++) {
            // To turn HAND 6 only loses 1, whether one has the WISH or not.
            DregsVerdict still = Due.told("judge 0 6 " + wish + ";judge 0 6 3;reads 3;");
            Due.is("HAND 6: nobody turns it", still.game(0, 1, 0), 1);
            Due.is("HAND 6: nobody turns it", still.game(0, 1, 1), 0);
        }
        DregsVerdict eight = Due.told("leaf 0 1;judge 0 7 4;" + "judge 0 6 0;".repeat(6) + "judge 0 8 4;pot 10;reads where;");
        Due.is("the first and the last of eight", eight.game(7, 0, 0), 2);
        Due.is("who is not asked turns nothing", eight.game(3, 0, 1), 0);
    }

    @Says(promise = 41, value = "A GAME: how many couples rest (what 0), the first (1; NONE: none).")
    private static void noCoupleRests() {
        Due.is("none", game(1, 4).game(0, 1, 0), 0);
        Due.is("none", game(1, 4).game(0, 1, 1), NONE);
        Due.is("one, that is neither", game(0, 0).game(0, 1, 0), 1);
        Due.is("neither is 0", game(0, 0).game(0, 1, 1), 0);
    }

    @Says(promise = 41, value = {"NoSuchElementException: also another what.", "IllegalArgumentException (behind that): both are one."})
    private static void noGame() {
        DregsVerdict x = Whole.busy();
        Due.taken("game of a what", 0, 1, Due.NSEE, what -> x.game(0, 1, what));
        missing("game(0, 1, 2)", y -> y.game(0, 1, 2));
        missing("game(0, 0, 2)", y -> y.game(0, 0, 2));
        missing("game(1, 1, -1)", y -> y.game(1, 1, -1));
        missing("game(2, 2, 0)", y -> y.game(2, 2, 0));
        missing("game(-1, -1, 0)", y -> y.game(-1, -1, 0));
        missing("game(0, 2, 0)", y -> y.game(0, 2, 0));
        missing("game(2, 0, 0)", y -> y.game(2, 0, 0));
        unfit("game(0, 0, 0)", y -> y.game(0, 0, 0));
        unfit("game(1, 1, 1)", y -> y.game(1, 1, 1));
    }

    // ---- years

    /** A seed from 'from' on behind which the draws are as told, each {n, what it must be}. */
    private static int seedFor(int from, int[]... draws) {
        for (int seed = from; seed < from + 20000000; seed++) {
            long s = seed;
            boolean good = true;
            for (int i = 0; i < draws.length && good; i++) {
                s = s * 1103515245L + 12345L & 0xffffffffL;
                good = (s >> 16 & 0x7fff) % draws[i][0] == draws[i][1];
            }
            if (good) {
                return seed;
            }
        }
        throw new IllegalStateException("no such seed");
    }

    private static int[] draw(int of, int is) {
        return new int[] {of, is};
    }

    @Says("YEARS by a seed: n CASES (0 to 60) from now on: ahead of each a DRAW of 6: 0 a DRAW of LEAVES goes to a DRAW of 12; "
        + "1 the HAND of a DRAW of JUDGES is a DRAW of 13; 2 THE POT is a DRAW of 100:")
    private static void whatIsDrawn() {
        String leaves = "leaf 5 9;".repeat(7) + "leaf 6 9;judge 0 6 0;reads ";
        // The eighth leaf is where it must be, and the others where they were.
        for (int place : new int[] {0, 11}) {
            DregsVerdict x = Due.told(leaves + "(most=7)*(odd=7+" + place % 2 + ");");
            Due.is("a leaf to " + place, x.years(seedFor(0, draw(6, 0), draw(8, 7), draw(12, place)), 1, 1), 1);
            DregsVerdict one = Due.told("leaf 5 9;reads where=" + place + ";");
            Due.is("the only leaf to " + place, one.years(seedFor(0, draw(6, 0), draw(1, 0), draw(12, place)), 1, 1), 1);
        }
        // By HAND 12 the leaf goes to 1, by HAND 0 to 11.
        DregsVerdict judge = Due.told("leaf 0 6;" + "judge 0 6 0;".repeat(8) + "pot 10;reads where;");
        Due.is("HAND 12", judge.years(seedFor(0, draw(6, 1), draw(8, 7), draw(13, 12)), 1, 1), 1);
        Due.is("HAND 0", judge.years(seedFor(0, draw(6, 1), draw(8, 0), draw(13, 0)), 1, 1), 1);
        // Only who sits first stirs a cup that is not empty.
        DregsVerdict eight = Due.told(FIRST_OF_EIGHT);
        eight.change(0, 7);
        Due.is("by judges, not by seats", eight.years(seedFor(0, draw(6, 1), draw(8, 7), draw(13, 12)), 1, 1), 1);
        for (int pot : new int[] {0, 1, 98, 99}) {
            DregsVerdict x = Due.told("reads (level=" + pot + ")*3;");
            Due.is("a pot of " + pot, x.years(seedFor(0, draw(6, 2), draw(100, pot)), 1, 1), 3);
        }
        for (int nothing = 3; nothing <= 5; nothing++) {
            DregsVerdict x = Due.told("leaf 0 1;judge 0 6 0;reads 1+(level=60 and where=0);");
            int seed = seedFor(0, draw(6, nothing), draw(6, nothing), draw(6, nothing));
            Due.is("nothing by " + nothing, x.years(seed, 3, 0), 3);
            Due.is("nothing by " + nothing, x.years(seed, 3, 1), 2);
        }
        // Ahead of each: it is so in the case itself, and stays so.
        DregsVerdict x = Due.told("reads 1+(level=84);");
        int late = seedFor(0, draw(6, 3), draw(6, 2), draw(100, 84), draw(6, 4), draw(6, 5));
        Due.is("from the second case on", x.years(late, 4, 0), 3);
        Due.is("from the second case on", x.years(late, 1, 1), 1);
        x.cases(1);
        Due.is("from now on", x.years(late, 4, 0), 3);
    }

    @Says("how often that VERDICT came that came most; which (of like ones the least; none without CASES); how often JUDGES had "
        + "their WISH, all together.")
    private static void whatCameMost() {
        DregsVerdict x = Due.told("judge 0 6 1;judge 0 6 2;judge 0 6 2;reads 4-case;");
        Due.is("each once", x.years(1, 5, 0), 1);
        Due.is("of like ones the least", x.years(1, 5, 1), 0);
        Due.is("4 and 3", x.years(1, 2, 1), 3);
        Due.is("one by 1, two by 2", x.years(1, 5, 2), 3);
        Due.is("60 cases", x.years(1, 60, 0), 12);
        Due.is("all together", x.years(1, 60, 2), 36);
        DregsVerdict eight = Due.told("judge 0 6 4;".repeat(8) + "reads 4;");
        Due.is("the most there can be", eight.years(MAX, 60, 2), 480);
        Due.is("always 4", eight.years(MIN, 60, 1), 4);
        Due.is("60 times", eight.years(-1, 60, 0), 60);
        Due.is("no wishes", Due.told("judge 0 6 4;".repeat(8) + "reads 3;").years(0, 60, 2), 0);
        Due.is("nobody", Due.told("reads 3;").years(0, 60, 2), 0);
        for (int what = 0; what <= 2; what++) {
            Due.is("without CASES", eight.years(5, 0, what), what == 1 ? NONE : 0);
        }
    }

    @Says("A seed becomes itself times 1103515245 and 12345 (an int that wraps); a DRAW of n is its bits 16 to 30 MOD n then.")
    private static void seedsAndDraws() {
        // What the first and the second draw give for the seeds at both ends, by longs that are cut.
        int[] seeds = {0, 1, -1, MIN, MAX, MIN + 1, 12345, -12345};
        for (int seed : seeds) {
            long first = seed * 1103515245L + 12345L & 0xffffffffL;
            long second = first * 1103515245L + 12345L & 0xffffffffL;
            long kind = (first >> 16 & 0x7fff) % 6;
            long pot = kind == 2 ? (second >> 16 & 0x7fff) % 100 : 60;
            Due.is("seed " + seed, Due.told("reads (level=" + pot + ")*4;").years(seed, 1, 1), 4);
        }
        // Seeds that become an int below 0: bit 31 counts for nothing.
        int found = 0;
        for (int seed = 0; seed < 2000 && found < 5; seed++) {
            int first = seed * 1103515245 + 12345;
            int second = first * 1103515245 + 12345;
            if (first < 0 && second < 0 && (first >>> 16 & 32767) % 6 == 2) {
                found++;
                int pot = (second >>> 16 & 32767) % 100;
                Due.is("seed " + seed, Due.told("reads (level=" + pot + ")*4;").years(seed, 1, 1), 4);
            }
        }
        Due.is("such seeds", found, 5);
        // Each call begins by its own seed.
        DregsVerdict x = Due.told("reads level;");
        int twice = x.years(7, 60, 0);
        x.years(8, 60, 0);
        Due.is("the same seed again", x.years(7, 60, 0), twice);
    }

    @Says("(Without LEAVES nothing is drawn behind 0, without JUDGES nothing behind 1.)")
    private static void nothingIsDrawn() {
        // The draw behind it is the next case's: it is 2, and the pot is 84.
        int noLeaves = seedFor(0, draw(6, 0), draw(6, 2), draw(100, 84));
        Due.is("no leaves", Due.told("judge 0 6 0;reads (level=84)*3;").years(noLeaves, 2, 2), 1);
        Due.is("no leaves", Due.told("reads (level=84)+1;").years(noLeaves, 2, 0), 1);
        int noJudges = seedFor(0, draw(6, 1), draw(6, 2), draw(100, 84));
        Due.is("no judges", Due.told("leaf 0 1;reads (level=84)+1;").years(noJudges, 2, 0), 1);
        // With them two more are drawn ahead of it.
        int leaf = seedFor(0, draw(6, 0), draw(1, 0), draw(12, 7), draw(6, 2), draw(100, 84));
        Due.is("a leaf", Due.told("leaf 0 1;reads (level=84)+1;").years(leaf, 2, 0), 1);
        int judge = seedFor(0, draw(6, 1), draw(1, 0), draw(13, 7), draw(6, 2), draw(100, 84));
        Due.is("a judge", Due.told("judge 0 6 0;reads (level=84)+1;").years(judge, 2, 0), 1);
    }

    @Says(promise = 42, value = {"YEARS: how often (what 0), which (1; NONE), WISHES (2).", "NoSuchElementException: another what.",
        "IllegalArgumentException (behind that): n."})
    private static void noYears() {
        DregsVerdict x = Whole.busy();
        Due.taken("years of a what", 0, 2, Due.NSEE, what -> x.years(1, 1, what));
        Due.taken("years", 0, 60, Due.IAE, n -> x.years(1, n, 0));
        missing("years(1, 1, 3)", y -> y.years(1, 1, 3));
        missing("years(1, 61, 3)", y -> y.years(1, 61, 3));
        missing("years(1, -1, -1)", y -> y.years(1, -1, -1));
        for (int what = 0; what <= 2; what++) {
            int w = what;
            unfit("years(1, 61, " + w + ")", y -> y.years(1, 61, w));
            unfit("years(1, -1, " + w + ")", y -> y.years(1, -1, w));
        }
        Due.is("which, without CASES", x.years(1, 0, 1), NONE);
    }

    // ---- what is refused, and images

    @Says("STATUS: how many calls were refused: 0 TEXTS with a FAULT, 1 ACTS, 2 what is READ.")
    private static void refusedCalls() {
        DregsVerdict x = Due.told("leaf 0 1;judge 0 6 0;judge 0 6 0;");
        status("nothing was refused", x, 0, 0, 0);
        Due.tell(x, "x");
        status("a text", x, 1, 0, 0);
        Due.tell(x, "leaf 99 1;");
        status("another text", x, 2, 0, 0);
        x.cases(21);
        x.change(1, 1);
        x.hand(0, 13);
        x.pot(100);
        x.put(0, 0);
        status("each kind of ACT", x, 2, 5, 0);
        x.read(21, 0);
        status("what is READ", x, 2, 5, 1);
        // What answers NONE without a STATUS, or throws, is in none.
        x.undo();
        for (int i = 0; i < 36; i++) {
            x.feed(0, 0, 0, 0, 0);
        }
        x.first(4);
        x.restore();
        Due.unfit("court(701)", () -> x.court(701));
        Due.missing("hand(2, 13)", () -> x.hand(2, 13));
        Due.missing("put(1, 0)", () -> x.put(1, 0));
        Due.missing("read(21, 5)", () -> x.read(21, 5));
        Due.missing("change(2, 2)", () -> x.change(2, 2) ? 1 : 0);
        status("nothing more", x, 2, 5, 1);
        // What is taken, undone or forgotten leaves it.
        x.pot(1);
        x.undo();
        x.read(1, 1);
        x.forget();
        status("as it was", x, 2, 5, 1);
    }

    private static void status(String when, DregsVerdict x, int... want) {
        for (int i = 0; i < 3; i++) {
            Due.is(when + ": STATUS " + i, x.count(12 + i), want[i]);
        }
    }

    private static void changeAll(DregsVerdict x) {
        x.cases(20);
        x.change(1, 0);
        x.hand(0, 11);
        x.pot(1);
        x.put(1, (x.leaf(1, 0) + 1) % 12);
        x.read(7, 3);
        x.pot(100);
        x.read(0, 0);
    }

    @Says("AN IMAGE keeps all that CASES and ACTS change, ACTS that are kept, what is READ, STATUS.")
    private static void whatAnImageKeeps() {
        Whole.stays("what is done and restored", NONE, ReadEdgesTest::imaged, x -> {
            changeAll(x);
            Due.is("restore()", x.restore(), true);
        });
        Whole.stays("what is undone and restored", NONE, ReadEdgesTest::imaged, x -> {
            for (int i = 0; i < 5; i++) {
                x.undo();
            }
            x.forget();
            Due.is("restore()", x.restore(), true);
        });
        Whole.stays("nothing done, and restored", NONE, ReadEdgesTest::imaged, DregsVerdict::restore);
        fortyInAnImage();
        // The tape and the latest FAULT's place are not of it.
        DregsVerdict x = imaged();
        x.feed(0, 0, 0, 0, 0);
        x.restore();
        Due.is("the tape stays", x.count(11), 40);
        Due.is("a FAULT", x.court(25), 1);
        Due.is("STATUS", x.count(12), 2);
        x.restore();
        Due.is("STATUS as it was", x.count(12), 1);
        Due.is("the FAULT's place stays", x.fault(), 20);
        Due.is("the tape stays", x.count(11), 0);
    }

    private static DregsVerdict imaged() {
        DregsVerdict x = Whole.busy();
        x.image();
        return x;
    }

    /** As many ACTS and READ as are kept, more of each behind the image, and all of them back. */
    private static void fortyInAnImage() {
        DregsVerdict x = Due.told("pot 50;reads case;");
        for (int i = 1; i <= 47; i++) {
            x.pot(i);
        }
        for (int k = 1; k <= 8; k++) {
            x.read(k, x.verdict(k, 0));
        }
        x.image();
        for (int i = 1; i <= 45; i++) {
            x.cases(1);
        }
        x.forget();
        // None is as the one that was READ in its stead.
        for (int k = 13; k <= 20; k++) {
            x.read(k, (k - 12) % 5);
        }
        Due.is("restore()", x.restore(), true);
        Due.is("READ", x.count(10), 8);
        Due.is("all of it is so", x.handed(2), 1);
        Due.is("the ninth", x.read(9, 0), NONE);
        x.cases(1);
        Due.is("none of it is so one case on", x.handed(2), 0);
        x.undo();
        // An act is kept less by that one: the oldest gave way to it.
        Due.is("39 are left", x.count(9), 39);
        for (int left = 38; left >= 0; left--) {
            Due.is("undo()", x.undo(), left);
            Due.is("the pot", x.count(3), left + 8);
        }
        Due.is("no more", x.undo(), NONE);
        x.restore();
        for (int left = 39; left >= 0; left--) {
            Due.is("undo()", x.undo(), left);
            Due.is("the pot", x.count(3), left + 7);
        }
        Due.is("no more", x.undo(), NONE);
    }

    @Says(promise = 43, value = "AN IMAGE is kept, in place of another one.")
    private static void inPlaceOfAnother() {
        DregsVerdict x = Due.told("pot 1;");
        x.image();
        x.pot(2);
        x.image();
        x.pot(3);
        Due.is("restore()", x.restore(), true);
        Due.is("the latest image", x.count(3), 2);
        Due.is("its acts", x.count(9), 1);
        x.pot(4);
        Due.is("restore() again", x.restore(), true);
        Due.is("it is still kept", x.count(3), 2);
        x.undo();
        x.image();
        x.pot(9);
        x.restore();
        Due.is("the third image", x.count(3), 1);
        Due.is("without acts", x.count(9), 0);
        Whole.stays("an image that is kept already", NONE, ReadEdgesTest::imaged, DregsVerdict::image);
        DregsVerdict y = new DregsVerdict();
        y.image();
        y.cases(3);
        Due.is("of a new object", y.restore(), true);
        Due.is("no case", y.count(2), 0);
        Due.is("no verdict", y.count(4), NONE);
    }

    @Says(promise = 44, value = "It is as the IMAGE again: true.")
    private static void asTheImage() {
        DregsVerdict x = imaged();
        int[] before = new int[15];
        for (int what = 0; what < 15; what++) {
            before[what] = x.count(what);
        }
        changeAll(x);
        Due.is("restore()", x.restore(), true);
        for (int what = 0; what < 15; what++) {
            Due.is("count(" + what + ")", x.count(what), before[what]);
        }
        changeAll(x);
        Due.is("restore() once more", x.restore(), true);
        Due.is("restore() at once", x.restore(), true);
        for (int what = 0; what < 15; what++) {
            Due.is("count(" + what + ")", x.count(what), before[what]);
        }
        Due.is("a text with a FAULT", faultOf(x), 1);
        Due.is("leaves the image", x.restore(), true);
    }

    private static int faultOf(DregsVerdict x) {
        x.feed(-1, -1, -1, -1, -1);
        return x.court(x.count(11));
    }

    @Says(promise = 44, value = "False: there is none.")
    private static void noImage() {
        Due.is("of a new object", new DregsVerdict().restore(), false);
        DregsVerdict x = imaged();
        Due.is("a new court", x.court(0), 0);
        Due.is("the image is gone", x.restore(), false);
        x.pot(9);
        Due.is("still", x.restore(), false);
        Due.is("nothing changes", x.count(3), 9);
        Whole.stays("restore() of none", NONE, ReadEdgesTest::withoutImage, y -> Due.is("restore()", y.restore(), false));
        x.image();
        x.pot(8);
        Due.is("a new image", x.restore(), true);
        Due.is("is as it was", x.count(3), 9);
    }

    private static DregsVerdict withoutImage() {
        DregsVerdict x = Due.told(Whole.TEXT);
        changeAll(x);
        Due.feed(x, "pot 5;".getBytes());
        return x;
    }
}
