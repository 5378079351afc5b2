/** Promise by promise: answers that were worked out by hand from the document, its edges, and wrong inputs. */
public final class PromiseTest {
    // The leaf goes one place on in each case; the verdict is its place and 1, MOD 5: 2 3 4 0 1 2 3 4 0 1 2 | 1 2 ..
    private static final String WALK = "leaf 0 1;judge 0 7 1;pot 10;";
    // Nobody stirs; 7, then 9 are drunk; the verdict is the level, 34, MOD 5.
    private static final String SIPS = "judge 7 6 0;judge 9 6 4;judge 5 6 4;pot 50;reads level;";

    private PromiseTest() {
    }

    public static void main(String[] args) {
        newObject();
        tape();
        courts();
        faultsOfLines();
        faultsOfRules();
        rules();
        ruleValues();
        counts();
        leavesAndJudges();
        casesGoBy();
        changes();
        undone();
        verdictsAhead();
        leavesAhead();
        judgesAhead();
        orders();
        turning();
        drinkingPouringLaying();
        betterSeats();
        stirring();
        reading();
        looking();
        games();
        years();
        images();
        fullBench();
        smallerCourt();
        askedTwice();
        fromNow();
        Due.end();
    }

    private static void newObject() {
        Due.promise("1 new object");
        DregsVerdict x = new DregsVerdict();
        int[] want = {0, 0, 0, 60, -1, 0, 0, 0, 12, 0, 0, 0, 0, 0, 0};
        for (int what = 0; what < want.length; what++) {
            Due.is("count(" + what + ")", x.count(what), want[what]);
        }
        Due.is("fault()", x.fault(), -1);
        Due.missing("leaf(0, 0)", () -> x.leaf(0, 0));
        Due.missing("judge(0, 0)", () -> x.judge(0, 0));
        Due.missing("seat(0)", () -> x.seat(0));
        Due.is("undo()", x.undo(), -1);
        Due.is("restore()", x.restore(), false);
        Due.is("cases(20)", x.cases(20), 20);
        Due.is("the latest verdict", x.count(4), 0);
    }

    private static void tape() {
        Due.promise("2 feed");
        DregsVerdict x = new DregsVerdict();
        for (int i = 1; i <= 35; i++) {
            Due.is("feed", x.feed(0x20202020, 0x20202020, 0x20202020, 0x20202020, 0x20202020), 20 * i);
        }
        Due.is("feed beyond 700", x.feed(1, 2, 3, 4, 5), -1);
        Due.is("bytes", x.count(11), 700);
        Due.is("700 blanks are a court", x.court(700), 0);
        Due.is("empty then", x.count(11), 0);
        // "pot 7;reads 3;" with the highest byte first, and bytes above 127 behind it.
        Due.is("feed", x.feed(0x706f7420, 0x373b7265, 0x61647320, 0x333bffff, -1), 20);
        Due.is("court(14)", x.court(14), 0);
        Due.is("the pot", x.count(3), 7);
        Due.is("the verdict", x.verdict(1, 0), 3);
        x.feed(0x706f7420, 0x373b7265, 0x61647320, 0x333bffff, -1);
        Due.is("court(15)", x.court(15), 1);
        Due.is("fault()", x.fault(), 14);
    }

    private static void courts() {
        Due.promise("3 court, 4 fault");
        DregsVerdict x = Due.told(WALK);
        x.cases(3);
        x.hand(0, 8);
        x.read(1, 1);
        x.image();
        Due.unfit("court(-1)", () -> x.court(-1));
        Due.unfit("court(1)", () -> x.court(1));
        x.feed(0x3b202020, 0, 0, 0, 0);
        Due.unfit("court(21)", () -> x.court(21));
        Due.is("the tape stays", x.count(11), 20);
        Due.is("no status", x.count(12), 0);
        Due.is("fault()", x.fault(), -1);
        Due.is("court(1)", x.court(1), 1);
        Due.is("the tape is empty", x.count(11), 0);
        Due.is("fault()", x.fault(), 0);
        Due.is("status", x.count(12), 1);
        Due.is("the case stays", x.count(2), 3);
        Due.is("the place stays", x.leaf(0, 0), 3);
        Due.is("the hand stays", x.judge(0, 1), 8);
        Due.is("acts stay", x.count(9), 2);
        Due.is("read stays", x.count(10), 1);
        Due.is("the image stays", x.restore(), true);
        Due.unfit("court(1)", () -> x.court(1));
        Due.is("fault() of the latest that was one", x.fault(), 0);
        Due.is("all anew", Due.tell(x, "judge 1 2 3;judge 4 5 0;"), 0);
        Due.is("fault()", x.fault(), -1);
        int[] want = {0, 2, 0, 60, -1, 0, 0, 0, 12, 0, 0, 0};
        for (int what = 0; what < want.length; what++) {
            Due.is("count(" + what + ")", x.count(what), want[what]);
        }
        Due.is("the image is gone", x.restore(), false);
        Due.is("acts are gone", x.undo(), -1);
        Due.is("no text", x.court(0), 0);
        Due.is("no judges", x.count(1), 0);
    }

    private static void faultsOfLines() {
        Due.promise("3 FAULTS of lines");
        Due.fault("", 0, -1);
        Due.fault(" \n ", 0, -1);
        Due.fault("leaf 0 1;leaf 11 9;judge 0 0 0;barrister 30 12 4;pot 99;drinks 0;reads 9999;", 0, -1);
        Due.fault("leaf0 1;judge1 2 3;pot0099;", 0, -1);
        Due.fault("x", 1, 0);
        Due.fault("  leafs 1 1;", 1, 2);
        Due.fault("Leaf 1 1;", 1, 0);
        Due.fault("leaf 1 1;\t", 1, 9);
        Due.fault("leaf 1 1;;", 1, 9);
        Due.fault("leaf 1 1 1;", 1, 9);
        Due.fault("leaf 1;", 1, 6);
        Due.fault("leaf 1 1", 1, 8);
        Due.fault("leaf 1 1  ", 1, 10);
        Due.fault("leaf", 1, 4);
        Due.fault("7", 1, 0);
        Due.fault("12345", 1, 0);
        Due.fault("leaf 1 1 12345", 1, 9);
        Due.fault("leaf 12 x", 2, 5);
        Due.fault("leaf 1 0;", 2, 7);
        Due.fault("leaf 1 10;", 2, 7);
        Due.fault("leaf 00001 1;", 2, 5);
        Due.fault("judge 31 0 0;", 2, 6);
        Due.fault("judge 0 13 0;", 2, 8);
        Due.fault("judge 0 0 5;", 2, 10);
        Due.fault("judge 0 0;", 1, 9);
        Due.fault("pot 100;", 2, 4);
        Due.fault("pot;", 1, 3);
        Due.fault("pot -1;", 1, 4);
        Due.fault("pot 5;pot x", 5, 6);
        Due.fault("reads 1;leaf 1 1;reads", 5, 17);
        Due.fault("drinks 1;drinks 2;", 5, 9);
        String leaves = "leaf 1 1;".repeat(8);
        Due.fault(leaves, 0, -1);
        Due.fault(leaves + "leaf x", 2, 72);
        String judges = "judge 1 1 1;barrister 1 1 1;".repeat(4);
        Due.fault(judges, 0, -1);
        Due.fault(judges + " judge", 2, 113);
        Due.fault(judges + "barrister 99 1 1;", 2, 112);
    }

    private static void faultsOfRules() {
        Due.promise("3 FAULTS of rules");
        Due.fault("reads 12345;", 2, 6);
        Due.fault("reads 1 12345;", 1, 8);
        Due.fault("reads ;", 1, 6);
        Due.fault("reads", 1, 5);
        Due.fault("reads 1", 1, 7);
        Due.fault("reads 1+;", 1, 8);
        Due.fault("reads -1;", 1, 6);
        Due.fault("reads 1<2<3;", 1, 9);
        Due.fault("reads 1<2=3;", 1, 9);
        Due.fault("reads 1 2;", 1, 8);
        Due.fault("reads 1 level;", 1, 8);
        Due.fault("reads (1;", 1, 8);
        Due.fault("reads 1);", 1, 7);
        Due.fault("reads ();", 1, 7);
        Due.fault("reads 1 or;", 1, 10);
        Due.fault("reads 1 ! 2;", 1, 8);
        Due.fault("reads thirst;", 3, 6);
        Due.fault("reads seat;", 3, 6);
        Due.fault("drinks thirst+seat;", 0, -1);
        Due.fault("reads 1+leaf;", 3, 8);
        Due.fault("reads or;", 3, 6);
        Due.fault("reads 1+not 1;", 3, 8);
        Due.fault("reads 1<not 1;", 3, 8);
        Due.fault("reads not;", 1, 9);
        Due.fault("reads levels;", 3, 6);
        Due.fault("reads 1 and leaf;", 3, 12);
        Due.fault("reads 1 or leaf;", 3, 11);
        Due.fault("reads 2*leaf;", 3, 8);
        Due.fault("reads (leaf);", 3, 7);
        Due.fault("reads not leaf;", 3, 10);
        Due.fault("reads not not not not not not 1;", 0, -1);
        Due.fault("reads not not not not not not not 1;", 2, 30);
        Due.fault("reads not not not not not not(not 1);", 0, -1);
        Due.fault("reads not not not not not not level and not 1;", 0, -1);
        Due.fault("reads (((((1)))));", 0, -1);
        Due.fault("reads ((((((1))))));", 2, 12);
        Due.fault("reads (((((( zzz", 2, 13);
        Due.fault("reads ((((((not", 2, 12);
        Due.fault("reads (((((((", 2, 12);
        Due.fault("reads ((((((99999", 2, 12);
        Due.fault("reads (((((()", 1, 12);
        Due.fault("reads ((((((+", 1, 12);
        Due.fault("reads ((((((", 1, 12);
        Due.fault("reads (((((1)))))+(((((2)))));", 0, -1);
        Due.fault("drinks ((((( 1 ))))) ; reads ((((( seat", 3, 35);
    }

    /** What the rule gives, if that is 0 to 99: two judges, THIRST 3, the first of whom drinks; no leaves. */
    private static int worth(String expr) {
        return Due.told("judge 3 6 0;judge 0 6 0;pot 99;drinks " + expr + ";").drunk(0, 1);
    }

    private static void rules() {
        Due.promise("3 what rules give");
        Due.is("from the left", worth("9-5-2"), 2);
        Due.is("from the left", worth("90/5/2*3"), 27);
        Due.is("products first", worth("2+3*4"), 14);
        Due.is("parentheses", worth("(2+3)*4"), 20);
        Due.is("cut down to 0", worth("10+(0-7)/2"), 7);
        Due.is("by 0", worth("7/0+5"), 5);
        Due.is("by 0 within", worth("5/(3-3)"), 0);
        Due.is("less", worth("3<4"), 1);
        Due.is("not less", worth("4<4"), 0);
        Due.is("the same", worth("2+2=2*2"), 1);
        Due.is("not the same", worth("2=3"), 0);
        Due.is("not of a test", worth("not 3<2"), 1);
        Due.is("not 7", worth("not 7"), 0);
        Due.is("not not 7", worth("not not 7"), 1);
        Due.is("and", worth("7 and 9"), 1);
        Due.is("and 0", worth("7 and 0"), 0);
        Due.is("or", worth("0 or 5"), 1);
        Due.is("or 0", worth("0 or 0"), 0);
        Due.is("and first", worth("1 or 1 and 0"), 1);
        Due.is("a number alone", worth("(7)"), 7);
        Due.is("below 0 drinks nothing", worth("0-9"), 0);
        Due.is("at most all", worth("9999"), 99);
        // 9999*9999*50 is 4999000050, as an int that wraps 704032754.
        Due.is("wraps", worth("9999*9999*50/9999/1000"), 70);
        Due.is("the least int is below 0", worth("8192*8192*32<0"), 1);
        Due.is("the least int by -1 is itself", worth("8192*8192*32/(0-1)=8192*8192*32"), 1);
        Due.is("READS below 0", Due.told("reads 0-1;").verdict(1, 0), 4);
        Due.is("READS far below 0", Due.told("reads 0-9998;").verdict(1, 0), 2);
        Due.is("READS above 4", Due.told("reads 9999;").verdict(1, 0), 4);
    }

    private static void ruleValues() {
        Due.promise("3 VALUES");
        Due.is("thirst", worth("thirst"), 3);
        Due.is("seat", worth("seat+1"), 1);
        Due.is("level ahead of drinking", worth("level/3"), 33);
        Due.is("most, where, odd without leaves", worth("most+where+odd"), 0);
        Due.is("case", worth("case+20"), 20);
        DregsVerdict x = Due.told("judge 3 6 0;judge 4 6 0;judge 5 6 0;pot 99;drinks 10*seat+thirst+case;reads case;");
        Due.is("first seat", x.drunk(0, 1), 3);
        Due.is("second seat", x.drunk(1, 1), 14);
        Due.is("the last one does not drink", x.drunk(2, 1), 0);
        Due.is("in the fourth case", x.drunk(1, 4), 17);
        Due.is("case of READS", x.verdict(4, 0), 3);
        x.change(0, 1);
        Due.is("seats changed", x.drunk(0, 1), 13);
        DregsVerdict y = Due.told("leaf 3 1;leaf 5 1;leaf 3 1;leaf 5 1;leaf 8 1;judge 0 6 0;judge 0 6 0;pot 99;"
            + "drinks 40*most+where; reads odd;");
        Due.is("most and where", y.drunk(0, 1), 83);
        Due.is("odd", y.verdict(1, 0), 4);
        String leaves = "leaf 4 1;leaf 3 1;leaf 4 1;judge 0 6 0;judge 0 6 0;pot 99;drinks ";
        Due.is("most alone", Due.told(leaves + "most;").drunk(0, 1), 2);
        Due.is("where alone", Due.told(leaves + "where;").drunk(0, 1), 4);
        Due.is("odd alone", Due.told(leaves + "odd;").drunk(0, 1), 1);
        // The second judge sees the leaf where the first one stirred it.
        DregsVerdict z = Due.told("leaf 0 1;judge 0 8 0;judge 0 6 0;judge 0 6 0;pot 50;drinks where;");
        Due.is("ahead of the stir", z.drunk(0, 1), 0);
        Due.is("behind the stir", z.drunk(1, 1), 10);
    }

    private static void counts() {
        Due.promise("5 count");
        DregsVerdict x = Due.told("leaf 11 2;leaf 1 3;leaf 11 1;judge 0 6 0;pot 42;");
        int[] want = {3, 1, 0, 42, -1, 2, 11, 3, 9, 0, 0, 0, 0, 0, 0};
        for (int what = 0; what < want.length; what++) {
            Due.is("count(" + what + ")", x.count(what), want[what]);
        }
        Due.missing("count(-1)", () -> x.count(-1));
        Due.missing("count(15)", () -> x.count(15));
        Due.is("a gap round the end", Due.told("leaf 4 1;leaf 7 1;").count(8), 8);
        Due.is("a gap of one leaf", Due.told("leaf 4 1;").count(8), 11);
        Due.is("the least place of like ones", Due.told("leaf 9 1;leaf 4 1;").count(6), 4);
        x.cases(2);
        x.pot(100);
        x.read(1, 0);
        x.read(0, 0);
        Due.is("the case", x.count(2), 2);
        Due.is("the verdict", x.count(4), 3);
        Due.is("acts", x.count(9), 1);
        Due.is("read", x.count(10), 1);
        Due.is("acts refused", x.count(13), 1);
        Due.is("read refused", x.count(14), 1);
    }

    private static void leavesAndJudges() {
        Due.promise("6 leaf");
        DregsVerdict x = Due.told("leaf 5 2;leaf 5 9;leaf 11 4;judge 3 4 1;barrister 9 12 0;judge 30 0 1;");
        Due.is("leaf(0, 0)", x.leaf(0, 0), 5);
        Due.is("leaf(2, 0)", x.leaf(2, 0), 11);
        Due.is("leaf(1, 1)", x.leaf(1, 1), 9);
        Due.missing("leaf(3, 0)", () -> x.leaf(3, 0));
        Due.missing("leaf(-1, 0)", () -> x.leaf(-1, 0));
        Due.missing("leaf(0, 2)", () -> x.leaf(0, 2));
        Due.missing("leaf(0, -1)", () -> x.leaf(0, -1));
        Due.promise("7 judge");
        int[] want = {30, 0, 1, 2, 0, 5};
        for (int what = 0; what < want.length; what++) {
            Due.is("judge(2, " + what + ")", x.judge(2, what), want[what]);
        }
        Due.is("a barrister", x.judge(1, 4), 1);
        Due.is("a party of one", x.judge(1, 5), 2);
        Due.missing("judge(3, 0)", () -> x.judge(3, 0));
        Due.missing("judge(-1, 0)", () -> x.judge(-1, 0));
        Due.missing("judge(0, 6)", () -> x.judge(0, 6));
        Due.missing("judge(0, -1)", () -> x.judge(0, -1));
        Due.promise("8 seat");
        Due.is("seat(2)", x.seat(2), 2);
        x.change(0, 2);
        Due.is("seat(2)", x.seat(2), 0);
        Due.is("seat(0)", x.seat(0), 2);
        Due.is("the seat of 0", x.judge(0, 3), 2);
        Due.missing("seat(3)", () -> x.seat(3));
        Due.missing("seat(-1)", () -> x.seat(-1));
        Due.promise("9 heap, 36 weight");
        Due.is("heap(5)", x.heap(5), 3);
        Due.is("heap(11)", x.heap(11), 4);
        Due.is("heap(0)", x.heap(0), 0);
        Due.missing("heap(12)", () -> x.heap(12));
        Due.missing("heap(-1)", () -> x.heap(-1));
        Due.is("weight(5)", x.weight(5), 11);
        Due.is("weight(0)", x.weight(0), 0);
        Due.missing("weight(12)", () -> x.weight(12));
        Due.missing("weight(-1)", () -> x.weight(-1));
        Due.promise("31 apart");
        Due.is("apart(0, 2)", x.apart(0, 2), 6);
        Due.is("apart(0, 1)", x.apart(0, 1), 0);
        Due.is("apart(2, 2)", x.apart(2, 2), 0);
        Due.is("round the end", Due.told("leaf 11 1;leaf 1 1;").apart(0, 1), 2);
        Due.missing("apart(3, 0)", () -> x.apart(3, 0));
        Due.missing("apart(0, -1)", () -> x.apart(0, -1));
    }

    private static void casesGoBy() {
        Due.promise("10 cases");
        DregsVerdict x = Due.told(WALK);
        Due.is("cases(0)", x.cases(0), -1);
        Due.is("cases(21)", x.cases(21), -1);
        Due.is("refused", x.count(13), 2);
        Due.is("no acts", x.count(9), 0);
        Due.is("cases(1)", x.cases(1), 1);
        Due.is("the place", x.leaf(0, 0), 1);
        Due.is("the verdict", x.count(4), 2);
        Due.is("cases(10)", x.cases(10), 11);
        Due.is("cases(2)", x.cases(2), 13);
        Due.is("round the end", x.leaf(0, 0), 1);
        for (int i = 0; i < 49; i++) {
            x.cases(20);
        }
        Due.is("the case", x.count(2), 993);
        Due.is("above 999", x.cases(7), -1);
        Due.is("up to 999", x.cases(6), 999);
        Due.is("above 999", x.cases(1), -1);
        Due.is("refused", x.count(13), 4);
        Due.is("cases ahead go on", x.verdict(60, 1), 10);

        Due.promise("10 a case: stirring, blowing");
        // -3 times 2 is -6: weights 1, 2, 4, 5, 7 go 6, 3, 1, 1, 0 back.
        DregsVerdict y = Due.told("leaf 2 1;leaf 2 2;leaf 2 4;leaf 0 5;leaf 0 7;judge 0 3 0;pot 29;");
        y.cases(1);
        int[] stirred = {8, 11, 1, 11, 0};
        for (int l = 0; l < 5; l++) {
            Due.is("leaf " + l, y.leaf(l, 0), stirred[l]);
        }
        // Nobody stirs. Leaf 1 goes from 11 on to 0; 2 from 11 to 0; 3 meets both at 0 and goes to 1.
        DregsVerdict z = Due.told("leaf 11 1;leaf 11 1;leaf 11 1;leaf 0 1;leaf 2 1;barrister 0 6 0;");
        z.cases(1);
        int[] blown = {11, 0, 0, 1, 2};
        for (int l = 0; l < 5; l++) {
            Due.is("leaf " + l, z.leaf(l, 0), blown[l]);
        }
        Due.is("a judge does not blow", Due.told("leaf 4 1;leaf 4 1;judge 0 6 0;").lies(1, 1), 4);
        // The first one drinks 15 of 30 and stirs by 1 at 15; the barrister drinks nothing, stirs by 1 at 15, and blows.
        DregsVerdict w = Due.told("leaf 0 1;leaf 0 1;judge 15 7 0;barrister 20 7 0;pot 30;");
        w.cases(1);
        Due.is("leaf 0", w.leaf(0, 0), 2);
        Due.is("leaf 1", w.leaf(1, 0), 3);
        Due.is("thirst beyond the level", Due.told("judge 30 6 0;judge 0 6 0;pot 20;").verdict(1, 1), 0);
    }

    private static void changes() {
        Due.promise("11 change");
        DregsVerdict x = Due.told("leaf 3 1;judge 0 6 0;judge 1 7 0;judge 2 8 0;");
        Due.is("change(0, 2)", x.change(0, 2), true);
        Due.is("change(0, 1)", x.change(0, 1), true);
        Due.is("seat(0)", x.seat(0), 2);
        Due.is("seat(1)", x.seat(1), 0);
        Due.is("seat(2)", x.seat(2), 1);
        Due.is("change(1, 1)", x.change(1, 1), false);
        Due.is("refused", x.count(13), 1);
        Due.is("acts", x.count(9), 2);
        Due.missing("change(3, 3)", () -> x.change(3, 3) ? 1 : 0);
        Due.missing("change(3, 0)", () -> x.change(3, 0) ? 1 : 0);
        Due.missing("change(-1, 0)", () -> x.change(-1, 0) ? 1 : 0);
        Due.missing("change(0, -1)", () -> x.change(0, -1) ? 1 : 0);
        Due.promise("12 hand");
        Due.is("hand(1, 12)", x.hand(1, 12), 7);
        Due.is("hand(1, 0)", x.hand(1, 0), 12);
        Due.is("hand(1, 13)", x.hand(1, 13), -1);
        Due.is("hand(1, -1)", x.hand(1, -1), -1);
        Due.is("the hand", x.judge(1, 1), 0);
        Due.is("refused", x.count(13), 3);
        Due.missing("hand(3, 13)", () -> x.hand(3, 13));
        Due.missing("hand(-1, 0)", () -> x.hand(-1, 0));
        Due.is("the same hand is an act", x.hand(1, 0), 0);
        Due.is("acts", x.count(9), 5);
        Due.promise("13 pot");
        Due.is("pot(99)", x.pot(99), 60);
        Due.is("pot(0)", x.pot(0), 99);
        Due.is("pot(100)", x.pot(100), -1);
        Due.is("pot(-1)", x.pot(-1), -1);
        Due.is("the pot", x.count(3), 0);
        Due.is("refused", x.count(13), 5);
        Due.promise("14 put");
        Due.is("put(0, 11)", x.put(0, 11), 3);
        Due.is("put(0, 0)", x.put(0, 0), 11);
        Due.is("put(0, 0)", x.put(0, 0), -1);
        Due.is("refused", x.count(13), 6);
        Due.missing("put(1, 0)", () -> x.put(1, 0));
        Due.missing("put(0, 12)", () -> x.put(0, 12));
        Due.missing("put(0, -1)", () -> x.put(0, -1));
        Due.is("refused, no more", x.count(13), 6);
        Due.is("acts", x.count(9), 9);
    }

    private static void undone() {
        Due.promise("15 undo");
        DregsVerdict x = Due.told("leaf 0 1;judge 0 7 1;judge 0 6 1;pot 10;");
        x.cases(2);
        x.cases(3);
        x.change(0, 1);
        x.hand(0, 9);
        x.pot(77);
        x.put(0, 11);
        Due.is("undo put", x.undo(), 5);
        Due.is("the place", x.leaf(0, 0), 5);
        Due.is("undo pot", x.undo(), 4);
        Due.is("the pot", x.count(3), 10);
        Due.is("undo hand", x.undo(), 3);
        Due.is("the hand", x.judge(0, 1), 7);
        Due.is("undo change", x.undo(), 2);
        Due.is("the seat", x.seat(0), 0);
        Due.is("undo cases", x.undo(), 1);
        Due.is("the case", x.count(2), 2);
        Due.is("the verdict", x.count(4), 3);
        Due.is("the place", x.leaf(0, 0), 2);
        Due.is("undo cases", x.undo(), 0);
        Due.is("no verdict", x.count(4), -1);
        Due.is("no act", x.undo(), -1);
        Due.is("no status", x.count(13), 0);
        for (int i = 0; i < 45; i++) {
            x.pot(i);
        }
        Due.is("at most 40 are kept", x.count(9), 40);
        for (int left = 39; left >= 0; left--) {
            Due.is("undo()", x.undo(), left);
        }
        Due.is("the latest ones", x.count(3), 4);
        Due.is("no act", x.undo(), -1);
        x.read(1, 1);
        x.pot(50);
        x.read(2, 1);
        x.hand(1, 99);
        x.undo();
        Due.is("what is read stays", x.count(10), 2);
        Due.is("status stays", x.count(13), 1);
    }

    private static void verdictsAhead() {
        DregsVerdict x = Due.told(WALK);
        Due.promise("16 verdict");
        int[] want = {2, 3, 4, 0, 1, 2, 3, 4, 0, 1, 2, 1, 2, 3};
        for (int k = 1; k <= want.length; k++) {
            Due.is("verdict(" + k + ", 0)", x.verdict(k, 0), want[k - 1]);
        }
        Due.is("verdict(60, 0)", x.verdict(60, 0), 1);
        Due.is("nothing changes", x.count(2), 0);
        Due.is("the level", Due.told(SIPS).verdict(3, 1), 34);
        Due.is("the verdict", Due.told(SIPS).verdict(3, 0), 4);
        Due.unfit("verdict(0, 0)", () -> x.verdict(0, 0));
        Due.unfit("verdict(61, 1)", () -> x.verdict(61, 1));
        Due.missing("verdict(0, 2)", () -> x.verdict(0, 2));
        Due.missing("verdict(1, -1)", () -> x.verdict(1, -1));
        Due.promise("18 often");
        Due.is("often(2, 0)", x.often(2, 0), 0);
        Due.is("often(2, 11)", x.often(2, 11), 3);
        Due.is("often(1, 60)", x.often(1, 60), 15);
        Due.missing("often(5, 61)", () -> x.often(5, 61));
        Due.missing("often(-1, 0)", () -> x.often(-1, 0));
        Due.unfit("often(0, 61)", () -> x.often(0, 61));
        Due.unfit("often(0, -1)", () -> x.often(0, -1));
        Due.promise("19 first");
        Due.is("first(2)", x.first(2), 1);
        Due.is("first(1)", x.first(1), 5);
        Due.is("first(3) never", Due.told(SIPS).first(3), -1);
        Due.is("in the 60th", Due.told("reads case=59;").first(1), 60);
        Due.is("not in the 61st", Due.told("reads case=60;").first(1), -1);
        Due.missing("first(5)", () -> x.first(5));
        Due.missing("first(-1)", () -> x.first(-1));
        Due.promise("34 streak");
        Due.is("streak(1)", x.streak(1), 1);
        Due.is("streak(60)", x.streak(60), 1);
        Due.is("one verdict", Due.told(SIPS).streak(60), 60);
        Due.is("of case / 3", Due.told("reads case/3;").streak(8), 3);
        Due.is("the longest, not the last", Due.told("reads (case<4)+(9<case)*2;").streak(12), 6);
        Due.unfit("streak(0)", () -> x.streak(0));
        Due.unfit("streak(61)", () -> x.streak(61));
        Due.promise("35 come");
        Due.is("come(0)", x.come(0), 0);
        Due.is("come(2)", x.come(2), 12);
        Due.is("come(60)", x.come(60), 31);
        Due.unfit("come(-1)", () -> x.come(-1));
        Due.unfit("come(61)", () -> x.come(61));
    }

    private static void leavesAhead() {
        DregsVerdict x = Due.told(WALK);
        Due.promise("17 lies");
        Due.is("lies(0, 0)", x.lies(0, 0), 0);
        Due.is("lies(0, 13)", x.lies(0, 13), 1);
        Due.is("lies(0, 60)", x.lies(0, 60), 0);
        Due.missing("lies(1, 61)", () -> x.lies(1, 61));
        Due.unfit("lies(0, 61)", () -> x.lies(0, 61));
        Due.unfit("lies(0, -1)", () -> x.lies(0, -1));
        Due.promise("20 round");
        Due.is("round()", x.round(), 12);
        Due.is("nothing moves", Due.told("leaf 3 1;").round(), 1);
        Due.is("all leaves", Due.told("leaf 0 1;leaf 0 3;judge 0 9 0;pot 10;").round(), 12);
        // The cup is full once only, so that the leaf never comes back.
        DregsVerdict never = Due.told("leaf 0 1;judge 0 6 0;judge 0 7 0;pot 10;drinks 1-(case=0);");
        Due.is("never", never.round(), -1);
        // The leaf goes to the other side in the first case and back in the last one.
        String there = "leaf 0 1;judge 0 6 0;judge 0 12 0;pot 10;drinks 10*(0<case and case<%d);";
        Due.is("in the 60th", Due.told(String.format(there, 59)).round(), 60);
        Due.is("not in the 61st", Due.told(String.format(there, 60)).round(), -1);
        Due.promise("22 swept");
        Due.is("swept(0)", x.swept(0), 1);
        Due.is("swept(3)", x.swept(3), 15);
        Due.is("swept(60)", x.swept(60), 4095);
        Due.is("behind cases alone", Due.told("leaf 0 1;judge 0 9 0;judge 0 9 0;pot 10;").swept(1), 65);
        Due.unfit("swept(-1)", () -> x.swept(-1));
        Due.unfit("swept(61)", () -> x.swept(61));
    }

    private static void judgesAhead() {
        Due.promise("21 pleased");
        // The verdicts are 0 0 0 1 1 1 2 2 2 ..
        DregsVerdict x = Due.told("judge 9 6 2;judge 1 6 0;judge 8 6 0;judge 9 6 1;pot 60;reads case/3;");
        Due.is("pleased(1)", x.pleased(1), 1);
        Due.is("pleased(9)", x.pleased(9), 0);
        Due.is("pleased(8)", x.pleased(8), 1);
        Due.is("nobody ever", Due.told("judge 0 6 3;judge 0 6 4;reads 1;").pleased(5), 0);
        Due.is("no judges", new DregsVerdict().pleased(1), -1);
        Due.unfit("pleased(0)", () -> x.pleased(0));
        Due.unfit("pleased(61)", () -> x.pleased(61));
        Due.unfit("pleased(0) without judges", () -> new DregsVerdict().pleased(0));
        Due.promise("32 drunk");
        Due.is("drunk(0, 1)", x.drunk(0, 1), 9);
        Due.is("drunk(2, 60)", x.drunk(2, 60), 8);
        Due.is("the last seat", x.drunk(3, 1), 0);
        Due.is("what is left", Due.told("judge 30 6 0;judge 30 6 0;judge 1 6 0;pot 40;").drunk(1, 2), 10);
        Due.missing("drunk(4, 0)", () -> x.drunk(4, 0));
        Due.missing("drunk(-1, 1)", () -> x.drunk(-1, 1));
        Due.unfit("drunk(0, 0)", () -> x.drunk(0, 0));
        Due.unfit("drunk(0, 61)", () -> x.drunk(0, 61));
        Due.promise("33 thirstiest");
        Due.is("thirstiest(1)", x.thirstiest(1), 0);
        Due.is("the last drinks nothing", Due.told("judge 0 6 0;judge 2 6 0;judge 9 6 0;").thirstiest(60), 1);
        Due.is("like ones", Due.told("judge 1 6 0;judge 2 6 0;judge 2 6 0;judge 0 6 0;").thirstiest(9), 1);
        // Seat 0 drinks 5 in the first case, seat 1 drinks 2 in each.
        DregsVerdict y = Due.told("judge 0 6 0;judge 0 6 0;judge 0 6 0;drinks 5*(seat=0 and case=0)+2*(seat=1);");
        Due.is("thirstiest(2)", y.thirstiest(2), 0);
        Due.is("thirstiest(3)", y.thirstiest(3), 1);
        Due.is("no judges", new DregsVerdict().thirstiest(1), -1);
        Due.unfit("thirstiest(0)", () -> y.thirstiest(0));
        Due.unfit("thirstiest(61)", () -> y.thirstiest(61));
    }

    private static void orders() {
        Due.promise("23 orders");
        // The last one does not drink: 6 less what is left is drunk; the verdict is what is left of 6.
        DregsVerdict x = Due.told("judge 1 6 0;judge 2 6 0;judge 3 6 0;pot 6;reads level;");
        Due.is("orders(3, -1)", x.orders(3, -1), 2);
        Due.is("orders(3, 0)", x.orders(3, 0), 0);
        Due.is("orders(1, -1)", x.orders(1, -1), 2);
        Due.is("orders(2, -1)", x.orders(2, -1), 2);
        Due.is("orders(1, 0)", x.orders(1, 0), 1);
        Due.is("orders(1, 1)", x.orders(1, 1), 2);
        Due.is("orders(1, 2)", x.orders(1, 2), 0);
        Due.is("orders(2, 0)", x.orders(2, 0), 0);
        Due.is("orders(2, 1)", x.orders(2, 1), 2);
        Due.is("orders(4, -1)", x.orders(4, -1), 0);
        Due.is("orders(4, 0)", x.orders(4, 0), -1);
        x.change(0, 2);
        Due.is("however they sit now", x.orders(3, 0), 0);
        Due.is("nobody moved", x.seat(0), 2);
        Due.missing("orders(5, -1)", () -> x.orders(5, -1));
        Due.missing("orders(-1, 0)", () -> x.orders(-1, 0));
        Due.missing("orders(0, 3)", () -> x.orders(0, 3));
        Due.missing("orders(0, -2)", () -> x.orders(0, -2));
        String judge = "judge 1 6 0;";
        DregsVerdict six = Due.told(judge.repeat(6) + "reads 3;");
        Due.is("all of six", six.orders(3, -1), 720);
        Due.is("none of six", six.orders(2, 5), -1);
        DregsVerdict seven = Due.told(judge.repeat(7) + "reads 3;");
        Due.is("seven", seven.orders(3, -1), -2);
        Due.is("seven", seven.orders(3, 6), -2);
        Due.missing("seven, seat 7", () -> seven.orders(3, 7));
        Due.is("no judges", new DregsVerdict().orders(0, -1), 1);
        Due.is("one judge", Due.told(WALK).orders(2, 0), 0);
    }

    private static void turning() {
        // One leaf of weight 1, at 0, and a tenth of the level is 1: it goes 1, 2 and 0 places on; the verdict is where.
        DregsVerdict x = Due.told("leaf 0 1;judge 0 7 0;judge 0 8 0;judge 0 6 0;pot 10;reads where;");
        Due.promise("24 decisive");
        Due.is("decisive()", x.decisive(), 3);
        // 1 and 2 are 3; turned: -1 and 2 are 1; 1 and -2 are 11, 1 MOD 5; both: 9, 4 MOD 5.
        Due.is("no judges", new DregsVerdict().decisive(), 0);
        Due.is("all alike", Due.told(SIPS).decisive(), 0);
        Due.promise("25 toTurn");
        Due.is("toTurn(3)", x.toTurn(3), 0);
        Due.is("toTurn(1)", x.toTurn(1), 1);
        Due.is("toTurn(4)", x.toTurn(4), 3);
        Due.is("toTurn(0)", x.toTurn(0), -1);
        Due.is("the hands stay", x.judge(0, 1), 7);
        // 1, 1 and 2 are 4; by the first or the second one 2; by the third one alone 0, by the first two together too.
        DregsVerdict y = Due.told("leaf 0 1;judge 0 7 0;judge 0 7 0;judge 0 8 0;pot 10;reads where;");
        Due.is("of as few the least", y.toTurn(2), 1);
        Due.is("one rather than two", y.toTurn(0), 4);
        Due.missing("toTurn(5)", () -> x.toTurn(5));
        Due.missing("toTurn(-1)", () -> x.toTurn(-1));
    }

    private static void drinkingPouringLaying() {
        Due.promise("26 toDrink");
        DregsVerdict x = Due.told(SIPS);
        Due.is("toDrink(0, 4)", x.toDrink(0, 4), 2);
        Due.is("toDrink(0, 1)", x.toDrink(0, 1), 0);
        Due.is("toDrink(1, 3)", x.toDrink(1, 3), 0);
        Due.is("the last one", x.toDrink(2, 3), -1);
        Due.is("the last one", x.toDrink(2, 4), 0);
        Due.is("thirst 30", Due.told("judge 0 6 0;judge 0 6 0;reads level<31;").toDrink(0, 1), 30);
        Due.missing("toDrink(3, 0)", () -> x.toDrink(3, 0));
        Due.missing("toDrink(0, 5)", () -> x.toDrink(0, 5));
        Due.promise("27 toPour");
        Due.is("toPour(4)", x.toPour(4), 20);
        Due.is("toPour(0)", x.toPour(0), 0);
        Due.is("the pot 99", Due.told("reads level=99;").toPour(1), 99);
        Due.is("each from now", Due.told("leaf 0 1;judge 0 7 0;reads where;").toPour(3), 30);
        Due.is("none", Due.told("reads level=100;").toPour(1), -1);
        Due.missing("toPour(5)", () -> x.toPour(5));
        Due.missing("toPour(-1)", () -> x.toPour(-1));
        Due.promise("28 toLay");
        DregsVerdict y = Due.told("leaf 0 1;leaf 4 9;judge 0 7 1;pot 10;reads where+10*most;");
        // Leaf 0 goes one on, leaf 1 stays at 4: the least of both, or 4 where both are.
        Due.is("toLay(0, 1)", y.toLay(0, 1), 0);
        Due.is("toLay(0, 4)", y.toLay(0, 4), 3);
        Due.is("toLay(0, 0)", y.toLay(0, 0), 11);
        Due.is("toLay(1, 3)", y.toLay(1, 3), -1);
        Due.is("the leaf stays", y.leaf(0, 0), 0);
        Due.missing("toLay(2, 0)", () -> y.toLay(2, 0));
        Due.missing("toLay(0, 5)", () -> y.toLay(0, 5));
    }

    private static void betterSeats() {
        Due.promise("29 better");
        // The verdict is what the last one's thirst is.
        DregsVerdict x = Due.told("judge 1 6 3;judge 2 6 1;judge 3 6 2;judge 3 6 3;pot 9;reads level;");
        Due.is("has it", x.better(0), -1);
        Due.is("by oneself alone", x.better(1), -1);
        Due.is("nobody", x.better(2), -1);
        DregsVerdict y = Due.told("judge 1 6 1;judge 2 6 1;judge 3 6 3;pot 6;reads level;");
        Due.is("has it", y.better(2), -1);
        Due.is("by the last one", y.better(0), 2);
        Due.is("no way", y.better(1), -1);
        DregsVerdict z = Due.told("judge 0 6 1;judge 0 7 0;judge 0 6 0;judge 0 6 0;leaf 0 1;pot 10;drinks seat=0;reads where;");
        // Level 9 behind the first seat, unless the one who stirs is there, who then still drinks: where stays 0.
        Due.is("none", z.better(0), -1);
        DregsVerdict w = Due.told("judge 5 6 0;judge 5 7 1;judge 5 6 1;leaf 0 1;pot 15;drinks thirst*(seat<2);reads where;");
        // In seat 0 the second one stirs at 10: the leaf goes to 1.
        Due.is("has a better seat", w.better(1), 0);
        Due.is("has none by the other", w.better(2), -1);
        Due.is("nobody moved", w.seat(0), 0);
        Due.missing("better(3)", () -> w.better(3));
        Due.missing("better(-1)", () -> w.better(-1));
    }

    private static void stirring() {
        Due.promise("30 stir");
        DregsVerdict x = Due.told("leaf 10 1;leaf 10 4;judge 30 12 0;barrister 30 0 0;pot 0;");
        Due.is("stir(0, 0, 9)", x.stir(0, 0, 9), 10);
        Due.is("stir(0, 0, 10)", x.stir(0, 0, 10), 4);
        Due.is("stir(0, 0, 99)", x.stir(0, 0, 99), 4);
        Due.is("stir(1, 0, 99)", x.stir(1, 0, 99), 4);
        Due.is("stir(1, 1, 30)", x.stir(1, 1, 30), 6);
        Due.is("stir(0, 1, 30)", x.stir(0, 1, 30), 2);
        Due.is("nothing changes", x.leaf(1, 0), 10);
        Due.unfit("stir(0, 0, -1)", () -> x.stir(0, 0, -1));
        Due.unfit("stir(0, 0, 100)", () -> x.stir(0, 0, 100));
        Due.missing("stir(2, 0, 100)", () -> x.stir(2, 0, 100));
        Due.missing("stir(0, 2, 100)", () -> x.stir(0, 2, 100));
    }

    private static void reading() {
        Due.promise("37 read, 40 forget");
        DregsVerdict x = Due.told(WALK);
        Due.is("read(0, 1)", x.read(0, 1), -1);
        Due.is("read(21, 1)", x.read(21, 1), -1);
        Due.missing("read(0, 5)", () -> x.read(0, 5));
        Due.missing("read(1, -1)", () -> x.read(1, -1));
        for (int i = 1; i <= 8; i++) {
            Due.is("read", x.read(20, 0), i);
        }
        Due.is("the 9th", x.read(1, 2), -1);
        Due.missing("the 9th, no such verdict", () -> x.read(1, 5));
        Due.is("refused", x.count(14), 3);
        x.forget();
        Due.is("forgotten", x.count(10), 0);
        Due.is("read again", x.read(1, 2), 1);

        Due.promise("38 handed");
        // By HAND h the leaf is at h - 6 behind a case: the verdict is 2, as READ, at 1, 6, 11 (and at -4: 8 and 1 are 9, no).
        Due.is("so without", x.handed(2), 1);
        // h 12 goes to 6, h 5 to 11, h 0 to 6.
        Due.is("how many", x.handed(0), 3);
        Due.is("the first", x.handed(1), 0);
        x.read(2, 1);
        // Two cases: 12 and 0 come to 0, whose verdict is 1; 5 comes to 10: also 1.
        Due.is("how many", x.handed(0), 3);
        Due.is("not so without", x.handed(2), 0);
        x.read(3, 0);
        // Three cases: 12 and 0 come to 6 (2), 5 to 9 (0).
        Due.is("how many", x.handed(0), 1);
        Due.is("the first", x.handed(1), 5);
        x.read(3, 1);
        Due.is("none", x.handed(0), 0);
        Due.is("none", x.handed(1), -1);
        Due.missing("handed(3)", () -> x.handed(3));
        Due.missing("handed(-1)", () -> x.handed(-1));
        DregsVerdict two = Due.told("judge 0 6 0;judge 0 6 0;leaf 0 1;pot 10;reads where=3;");
        two.read(1, 1);
        Due.is("of each one", two.handed(0), 2);
        Due.is("the first", two.handed(1), 9);
        two.hand(0, 9);
        Due.is("so without", two.handed(2), 1);
        // The first one has 9 already, and the second one stirs by nothing already: no other hand is as good.
        Due.is("another one than one has", two.handed(0), 0);
        // Only who sits first stirs a cup that is not empty: that is judge 1.
        DregsVerdict three = Due.told("judge 0 6 0;judge 0 6 0;judge 0 6 0;leaf 0 1;pot 10;drinks 10*(seat=1);reads where=3;");
        three.change(0, 1);
        three.read(1, 1);
        Due.is("by judge 1 alone", three.handed(0), 1);
        Due.is("100 by who", three.handed(1), 109);
        two.change(0, 1);
        two.cases(1);
        Due.is("from now on", two.handed(2), 0);
    }

    private static void looking() {
        Due.promise("39 look");
        DregsVerdict x = Due.told(WALK);
        // By HANDS 0 to 12 but 7: behind one case the places are all but 1 (6 twice), five verdicts.
        Due.is("the case", x.look(0), 1);
        Due.is("how many", x.look(1), 5);
        x.read(1, 2);
        // HANDS 0, 5, 12 are left: behind 2 cases 0, 10, 0: one verdict (1); behind 3: 6, 9, 6: two (2, 0).
        Due.is("the case", x.look(0), 3);
        Due.is("how many", x.look(1), 2);
        x.read(2, 0);
        Due.is("none", x.look(0), -1);
        Due.is("none", x.look(1), 0);
        DregsVerdict y = Due.told("judge 0 6 0;reads 2;");
        Due.is("all alike: the first", y.look(0), 1);
        Due.is("all alike: one", y.look(1), 1);
        // Only by HAND 12 the leaf goes one place on.
        DregsVerdict heavy = Due.told("leaf 0 6;judge 0 6 0;pot 10;reads where=1;");
        Due.is("HAND 12 too", heavy.look(1), 2);
        Due.is("the second case", Due.told("leaf 0 6;judge 0 6 0;pot 10;reads (case=1)*where;").look(0), 2);
        Due.is("the 20th case", Due.told("leaf 0 6;judge 0 6 0;pot 10;reads (case=19)*where;").look(0), 20);
        Due.is("no judges", new DregsVerdict().look(0), -1);
        Due.is("no judges", new DregsVerdict().look(1), 0);
        Due.missing("look(2)", () -> x.look(2));
        Due.missing("look(-1)", () -> x.look(-1));
    }

    private static void games() {
        Due.promise("41 game");
        // The leaf is at 3; if the first one turns at 1 (1 MOD 5), the other at 11 (1), both at 9 (4).
        String both = "leaf 0 1;judge 0 7 %d;judge 0 8 %d;pot 10;reads where;";
        DregsVerdict x = Due.told(String.format(both, 0, 0));
        Due.is("nobody's wish: only neither rests", x.game(0, 1, 0), 1);
        Due.is("neither", x.game(0, 1, 1), 0);
        DregsVerdict y = Due.told(String.format(both, 1, 1));
        // One of both turns: two couples rest, (0, 1) first.
        Due.is("how many", y.game(0, 1, 0), 2);
        Due.is("the first", y.game(0, 1, 1), 1);
        DregsVerdict z = Due.told(String.format(both, 4, 3));
        // The first wants 4, the second 3. (0,0): the first gains nothing by turning; rests.
        Due.is("how many", z.game(0, 1, 0), 1);
        Due.is("the first", z.game(0, 1, 1), 0);
        DregsVerdict w = Due.told(String.format(both, 1, 4));
        // (0,0): the first turns. (1,0) is 1: the second turns to 4. (1,1): the first turns back to 1. (0,1): 1, the second
        // gains -1 and 0 by the other choice. None rests.
        Due.is("none", w.game(0, 1, 0), 0);
        Due.is("none", w.game(0, 1, 1), -1);
        // The same, told the other way round.
        DregsVerdict v = Due.told(String.format(both, 1, 0));
        Due.is("the first turns", v.game(0, 1, 1), 10);
        Due.is("the other turns", v.game(1, 0, 1), 1);
        Due.is("the hands stay", v.judge(0, 1), 7);
        Due.unfit("game(0, 0, 0)", () -> x.game(0, 0, 0));
        Due.missing("game(0, 0, 2)", () -> x.game(0, 0, 2));
        Due.missing("game(0, 1, -1)", () -> x.game(0, 1, -1));
        Due.missing("game(2, 2, 0)", () -> x.game(2, 2, 0));
        Due.missing("game(0, -1, 0)", () -> x.game(0, -1, 0));
        Due.missing("game(2, 0, 0)", () -> x.game(2, 0, 0));
        Due.missing("game(-1, 0, 0)", () -> x.game(-1, 0, 0));
    }

    /** A seed behind which the draws are as told, found by trying; each draw is {n, what it must be}. */
    private static int seedFor(int[]... draws) {
        for (int seed = 0; seed < 50000000; seed++) {
            int s = seed;
            boolean good = true;
            for (int i = 0; i < draws.length && good; i++) {
                s = s * 1103515245 + 12345;
                good = (s >>> 16) % 32768 % draws[i][0] == draws[i][1];
            }
            if (good) {
                return seed;
            }
        }
        throw new IllegalStateException("no such seed");
    }

    private static void years() {
        Due.promise("42 years");
        DregsVerdict x = Due.told("leaf 0 1;leaf 7 9;judge 0 6 3;judge 0 6 2;pot 10;reads where;");
        Due.is("no cases", x.years(1, 0, 0), 0);
        Due.is("no cases", x.years(1, 0, 1), -1);
        Due.is("no cases", x.years(1, 0, 2), 0);
        int leaf = seedFor(new int[] {6, 0}, new int[] {2, 0}, new int[] {12, 3}, new int[] {6, 5}, new int[] {6, 3});
        // Leaf 0 goes to 3: the verdict is 3 each time, and one of both has the wish.
        Due.is("a leaf", x.years(leaf, 3, 0), 3);
        Due.is("a leaf", x.years(leaf, 3, 1), 3);
        Due.is("a leaf", x.years(leaf, 3, 2), 3);
        Due.is("nothing changes", x.leaf(0, 0), 0);
        int hand = seedFor(new int[] {6, 1}, new int[] {2, 1}, new int[] {13, 8}, new int[] {6, 4});
        // From the first case on the second one stirs by 2: places 2, 4; the other leaf does not move: verdicts 2, 4.
        Due.is("a hand", x.years(hand, 1, 1), 2);
        Due.is("a hand", x.years(hand, 2, 0), 1);
        Due.is("of like ones the least", x.years(hand, 2, 1), 2);
        Due.is("a hand", x.years(hand, 2, 2), 1);
        Due.is("the hand stays", x.judge(1, 1), 6);
        DregsVerdict y = Due.told("judge 0 6 3;judge 0 6 3;reads level;");
        int pot = seedFor(new int[] {6, 2}, new int[] {100, 83}, new int[] {6, 3}, new int[] {6, 4});
        Due.is("a pot", y.years(pot, 3, 1), 3);
        Due.is("a pot", y.years(pot, 3, 0), 3);
        Due.is("a pot, all wishes", y.years(pot, 3, 2), 6);
        Due.is("the pot stays", y.count(3), 60);
        // Without leaves nothing is drawn behind 0: the next draw is the next case's.
        int none = seedFor(new int[] {6, 0}, new int[] {6, 2}, new int[] {100, 84});
        Due.is("no leaves", y.years(none, 2, 0), 1);
        Due.is("no leaves", y.years(none, 2, 1), 0);
        Due.is("no leaves", Due.told("reads (level=84)*3;").years(none, 2, 0), 1);
        int nobody = seedFor(new int[] {6, 1}, new int[] {6, 2}, new int[] {100, 84});
        Due.is("no judges", Due.told("reads (level=84)*3;").years(nobody, 2, 0), 1);
        Due.is("no judges, no wishes", Due.told("reads (level=84)*3;").years(nobody, 2, 2), 0);
        Due.missing("years(1, 61, 3)", () -> x.years(1, 61, 3));
        Due.missing("years(1, 1, -1)", () -> x.years(1, 1, -1));
        Due.unfit("years(1, 61, 0)", () -> x.years(1, 61, 0));
        Due.unfit("years(1, -1, 2)", () -> x.years(1, -1, 2));
    }

    private static void images() {
        Due.promise("43 image, 44 restore");
        DregsVerdict x = Due.told("leaf 0 1;judge 0 7 1;judge 0 6 0;pot 10;");
        x.cases(2);
        x.hand(0, 8);
        x.read(1, 3);
        x.pot(100);
        x.image();
        x.feed(0, 0, 0, 0, 0);
        Due.is("a fault", x.court(1), 1);
        x.feed(0, 0, 0, 0, 0);
        x.cases(1);
        x.change(0, 1);
        x.hand(0, 1);
        x.pot(5);
        x.put(0, 7);
        x.forget();
        x.read(99, 1);
        x.pot(-1);
        Due.is("restore()", x.restore(), true);
        int[] want = {1, 2, 2, 10, 3, 1, 2, 0, 11, 2, 1, 20, 0, 1, 0};
        for (int what = 0; what < want.length; what++) {
            Due.is("count(" + what + ")", x.count(what), want[what]);
        }
        Due.is("the fault's place is not of the image", x.fault(), 0);
        Due.is("the seat", x.seat(0), 0);
        Due.is("the hand", x.judge(0, 1), 8);
        Due.is("what is read", x.handed(2), x.verdict(1, 0) == 3 ? 1 : 0);
        Due.is("undo hand", x.undo(), 1);
        Due.is("the hand", x.judge(0, 1), 7);
        Due.is("undo cases", x.undo(), 0);
        Due.is("the place", x.leaf(0, 0), 0);
        Due.is("again", x.restore(), true);
        Due.is("acts", x.count(9), 2);
        x.put(0, 9);
        x.image();
        x.put(0, 1);
        Due.is("in place of another one", x.restore(), true);
        Due.is("the place", x.leaf(0, 0), 9);
        DregsVerdict full = Due.told("pot 0;");
        for (int i = 1; i <= 43; i++) {
            full.pot(i);
        }
        full.image();
        for (int i = 0; i < 50; i++) {
            full.cases(1);
        }
        full.restore();
        for (int left = 39; left >= 0; left--) {
            Due.is("undo()", full.undo(), left);
            Due.is("the pot", full.count(3), left + 3);
        }
    }

    /** Every question once; none may change anything. */
    private static int[] allAnswers(DregsVerdict x) {
        int v = x.verdict(1, 0);
        int last = x.count(1) - 1;
        int leaf = x.count(0) - 1;
        return new int[] {v, x.verdict(60, 1), x.lies(leaf, 7), x.often(v, 20), x.first(v), x.round(), x.pleased(30),
            x.swept(5), x.orders(v, -1), x.orders(v, last), x.decisive(), x.toTurn(v), x.toDrink(0, v), x.toPour(v),
            x.toLay(leaf, v), x.better(last), x.stir(last, leaf, 55), x.apart(0, leaf), x.drunk(0, 9), x.thirstiest(9),
            x.streak(60), x.come(9), x.weight(3), x.heap(3), x.handed(0), x.handed(1), x.handed(2), x.look(0), x.look(1),
            x.game(0, last, 0), x.game(0, last, 1), x.years(7, 60, 0), x.years(7, 60, 1), x.years(7, 60, 2), x.seat(last),
            x.judge(last, 3), x.judge(last, 5), x.leaf(leaf, 0), x.count(4), x.count(5), x.count(6), x.count(7), x.count(8)};
    }

    /** What was looked at before must not matter: a look far ahead stands before each question. */
    private static void fromNow() {
        Due.promise("each question is asked from now on");
        // The first one drinks in the first case only, and then the leaf stays where it is; later it goes on.
        DregsVerdict x = Due.told("leaf 0 1;judge 0 6 1;judge 9 7 0;pot 10;drinks 3*(case=0);");
        DregsVerdict y = Due.told("judge 0 6 0;judge 0 6 0;judge 0 6 0;drinks (seat=1)=(case=0);reads case=0;");
        Due.Call[] calls = {() -> x.often(1, 1), () -> x.first(2), x::round, () -> x.pleased(1), () -> x.swept(1),
            () -> x.come(1), () -> y.thirstiest(1), () -> y.streak(2)};
        int[] due = {1, 2, 1, 0, 1, 2, 1, 1};
        for (int i = 0; i < calls.length; i++) {
            x.lies(0, 9);
            y.verdict(9, 0);
            Due.is("answer " + i, calls[i], due[i]);
        }
    }

    private static void alike(String what, int[] got, int[] want) {
        for (int i = 0; i < want.length; i++) {
            Due.is(what + ", answer " + i, got[i], want[i]);
        }
    }

    private static final String FULL = "leaf 3 1;leaf 3 2;leaf 3 3;leaf 4 4;leaf 5 5;leaf 6 6;leaf 11 7;leaf 0 1;"
        + "judge 3 9 1;barrister 5 2 2;judge 7 12 3;judge 9 0 4;barrister 1 7 0;judge 2 5 1;judge 4 8 2;judge 6 11 3;pot 97;";

    private static void fullBench() {
        Due.promise("eight leaves, eight judges");
        DregsVerdict x = Due.told(FULL);
        x.read(20, x.verdict(20, 0));
        alike("alike twice", allAnswers(x), allAnswers(x));
        Due.is("the party of the last one", x.judge(7, 5), 132);
        Due.is("who is last", x.seat(7), 7);
        Due.is("the heap", x.heap(3), 7);
        Due.is("the weight", x.weight(3), 6);
        Due.is("change(0, 7)", x.change(0, 7), true);
        Due.is("who is last", x.seat(7), 0);
        Due.missing("judge 8", () -> x.judge(8, 0));
        Due.missing("leaf 8", () -> x.leaf(8, 0));
        Due.is("all judges are turned at most", x.toTurn(x.verdict(1, 0)), 0);
    }

    private static void smallerCourt() {
        Due.promise("a smaller court behind larger ones");
        String small = "leaf 3 5;leaf 2 1;judge 1 8 1;judge 2 7 2;";
        DregsVerdict x = new DregsVerdict();
        Due.tell(x, FULL + "drinks most+odd;reads level+most;");
        x.cases(3);
        Due.tell(x, FULL + "drinks most+odd;reads level+most;");
        x.cases(4);
        Due.is("the smaller one", Due.tell(x, small), 0);
        alike("as if it were the first", allAnswers(x), allAnswers(Due.told(small)));
        Due.is("a fault far on", Due.tell(x, FULL + "pot 1;"), 5);
        alike("as if it had not been told", allAnswers(x), allAnswers(Due.told(small)));
    }

    private static void askedTwice() {
        Due.promise("questions change nothing");
        DregsVerdict x = Due.told("leaf 3 1;leaf 8 2;judge 9 9 1;barrister 4 3 2;judge 7 8 0;pot 77;drinks thirst+odd;");
        int[] before = allAnswers(x);
        alike("asked again", allAnswers(x), before);
        x.cases(3);
        x.change(0, 2);
        allAnswers(x);
        x.undo();
        x.undo();
        alike("undone", allAnswers(x), before);
        x.image();
        x.cases(3);
        x.hand(1, 12);
        allAnswers(x);
        x.restore();
        alike("restored", allAnswers(x), before);
    }
}
