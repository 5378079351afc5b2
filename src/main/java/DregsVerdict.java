import java.util.NoSuchElementException;

/** A cup that is passed along a bench of judges, and the verdict that is read from its dregs. */
public final class DregsVerdict {
    public static final int NONE = -1;

    private static final int PLACES = 12;
    private static final int VERDICTS = 5;
    private static final int MOST_LEAVES = 8;
    private static final int MOST_JUDGES = 8;
    private static final int TOP_WEIGHT = 9;
    private static final int TOP_THIRST = 30;
    private static final int TOP_HAND = 12;
    private static final int STILL_HAND = 6;
    private static final int TOP_POT = 99;
    private static final int USUAL_POT = 60;

    private static final int TAPE_BYTES = 700;
    private static final int FED_BYTES = 20;
    private static final int TOP_CASE = 999;
    private static final int CASES_AT_ONCE = 20;
    private static final int CASES_AHEAD = 60;
    private static final int KEPT_ACTS = 40;
    private static final int MOST_READ = 8;
    private static final int MOST_ORDERED = 6;
    private static final int ALL_ORDERS = 720;
    private static final int NOT_SOUGHT = -2;
    private static final int WISH_GAIN = 5;

    private static final int REFUSED_TEXTS = 0;
    private static final int REFUSED_ACTS = 1;
    private static final int REFUSED_READ = 2;

    private static final int DRINKS = 0;
    private static final int READS = 1;

    // A rule is kept as a row of these, operands first; what is 0 or more there is a NUMBER.
    private static final int OP_OR = -1;
    private static final int OP_AND = -2;
    private static final int OP_NOT = -3;
    private static final int OP_LESS = -4;
    private static final int OP_SAME = -5;
    private static final int OP_PLUS = -6;
    private static final int OP_MINUS = -7;
    private static final int OP_TIMES = -8;
    private static final int OP_PARTED = -9;
    private static final int LAST_OPERATOR = -9;
    private static final int VALUE_LEVEL = -10;
    private static final int VALUE_MOST = -11;
    private static final int VALUE_WHERE = -12;
    private static final int VALUE_ODD = -13;
    private static final int VALUE_CASE = -14;
    private static final int VALUE_THIRST = -15;
    private static final int VALUE_SEAT = -16;

    private final int[] tape = new int[TAPE_BYTES];
    private int tapeLength;
    private int faultPlace = NONE;

    private Court court = new Court();
    private final Clerk clerk = new Clerk();
    private final Reckoner reckoner = new Reckoner();

    private final Docket now = new Docket();
    private final Docket kept = new Docket();
    private boolean imaged;

    // What only might be is tried out in this cup.
    private final Cup trial = new Cup();
    private final int[] tally = new int[MOST_JUDGES];
    private final int[] order = new int[MOST_JUDGES];
    private final int[] foreseen = new int[CASES_AT_ONCE];
    private final int[] unlike = new int[CASES_AT_ONCE];
    private final int[] outcomes = new int[4];
    private int seed;

    public DregsVerdict() {
    }

    // ---- the tape and the text

    public int feed(int a, int b, int c, int d, int e) {
        if (tapeLength + FED_BYTES > TAPE_BYTES) {
            return NONE;
        }
        append(a);
        append(b);
        append(c);
        append(d);
        append(e);
        return tapeLength;
    }

    private void append(int number) {
        for (int shift = 24; shift >= 0; shift -= 8) {
            if (tapeLength < tape.length) {
                tape[tapeLength] = (number >>> shift) & 255;
                tapeLength++;
            }
        }
    }

    public int court(int n) throws IllegalArgumentException {
        if (n < 0 || n > tapeLength) {
            throw new IllegalArgumentException("the tape has not so many bytes");
        }
        tapeLength = 0;
        int found = clerk.takeDown(tape, n);
        if (found != 0) {
            faultPlace = clerk.at;
            now.refused[REFUSED_TEXTS]++;
            return found;
        }
        court = clerk.handOver(court);
        faultPlace = NONE;
        imaged = false;
        now.open(court);
        return 0;
    }

    public int fault() {
        return faultPlace;
    }

    // ---- what is now

    public int count(int what) throws NoSuchElementException {
        switch (what) {
            case 0: return court.leaves;
            case 1: return court.judges;
            case 2: return now.cup.number;
            case 3: return now.cup.pot;
            case 4: return now.cup.latest;
            case 5: case 6: case 7: case 8: return surveyed(what);
            case 9: return now.acts;
            case 10: return now.reads;
            case 11: return tapeLength;
            case 12: return now.refused[REFUSED_TEXTS];
            case 13: return now.refused[REFUSED_ACTS];
            case 14: return now.refused[REFUSED_READ];
            default: throw new NoSuchElementException("no such count");
        }
    }

    private int surveyed(int what) {
        reckoner.survey(court, now.cup);
        switch (what) {
            case 5: return reckoner.most;
            case 6: return reckoner.where;
            case 7: return reckoner.odd;
            default: return reckoner.widestGap();
        }
    }

    public int leaf(int leaf, int what) throws NoSuchElementException {
        needLeaf(leaf);
        switch (what) {
            case 0: return now.cup.places[leaf];
            case 1: return court.weights[leaf];
            default: throw new NoSuchElementException("no such thing of a leaf");
        }
    }

    public int judge(int judge, int what) throws NoSuchElementException {
        needJudge(judge);
        switch (what) {
            case 0: return court.thirsts[judge];
            case 1: return now.cup.hands[judge];
            case 2: return court.wishes[judge];
            case 3: return now.cup.seatOf(judge, court.judges);
            case 4: return court.barristers[judge] ? 1 : 0;
            case 5: return partyOf(court.wishes[judge]);
            default: throw new NoSuchElementException("no such thing of a judge");
        }
    }

    private int partyOf(int wish) {
        int bits = 0;
        for (int j = 0; j < court.judges; j++) {
            if (court.wishes[j] == wish) {
                bits |= 1 << j;
            }
        }
        return bits;
    }

    public int seat(int seat) throws NoSuchElementException {
        if (seat < 0 || seat >= court.judges) {
            throw new NoSuchElementException("no such seat");
        }
        return now.cup.seats[seat];
    }

    public int heap(int place) throws NoSuchElementException {
        needPlace(place);
        int bits = 0;
        for (int l = 0; l < court.leaves; l++) {
            if (now.cup.places[l] == place) {
                bits |= 1 << l;
            }
        }
        return bits;
    }

    public int weight(int place) throws NoSuchElementException {
        needPlace(place);
        int sum = 0;
        for (int l = 0; l < court.leaves; l++) {
            if (now.cup.places[l] == place) {
                sum += court.weights[l];
            }
        }
        return sum;
    }

    public int apart(int leaf, int other) throws NoSuchElementException {
        needLeaf(leaf);
        needLeaf(other);
        int way = Math.abs(now.cup.places[leaf] - now.cup.places[other]);
        return Math.min(way, PLACES - way);
    }

    public int stir(int judge, int leaf, int level) throws NoSuchElementException, IllegalArgumentException {
        needJudge(judge);
        needLeaf(leaf);
        needWithin(level, 0, TOP_POT);
        return Cup.stirred(now.cup.places[leaf], Cup.push(now.cup.hands[judge], level), court.weights[leaf]);
    }

    // ---- what is asked of a call's numbers

    private void needLeaf(int leaf) {
        if (leaf < 0 || leaf >= court.leaves) {
            throw new NoSuchElementException("no such leaf");
        }
    }

    private void needJudge(int judge) {
        if (judge < 0 || judge >= court.judges) {
            throw new NoSuchElementException("no such judge");
        }
    }

    private static void needPlace(int place) {
        if (place < 0 || place >= PLACES) {
            throw new NoSuchElementException("no such place");
        }
    }

    private static void needVerdict(int verdict) {
        if (verdict < 0 || verdict >= VERDICTS) {
            throw new NoSuchElementException("no such verdict");
        }
    }

    private static void needWhat(int what, int top) {
        if (what < 0 || what > top) {
            throw new NoSuchElementException("no such answer");
        }
    }

    private static void needWithin(int number, int least, int top) {
        if (number < least || number > top) {
            throw new IllegalArgumentException("a number that is not as told");
        }
    }

    // ---- acts

    public int cases(int many) {
        if (many < 1 || many > CASES_AT_ONCE || now.cup.number + many > TOP_CASE) {
            now.refused[REFUSED_ACTS]++;
            return NONE;
        }
        now.keepAct();
        for (int i = 0; i < many; i++) {
            now.cup.hear(court, reckoner);
        }
        return now.cup.number;
    }

    public boolean change(int judge, int other) throws NoSuchElementException {
        needJudge(judge);
        needJudge(other);
        if (judge == other) {
            now.refused[REFUSED_ACTS]++;
            return false;
        }
        now.keepAct();
        now.cup.swap(judge, other, court.judges);
        return true;
    }

    public int hand(int judge, int hand) throws NoSuchElementException {
        needJudge(judge);
        if (hand < 0 || hand > TOP_HAND) {
            now.refused[REFUSED_ACTS]++;
            return NONE;
        }
        now.keepAct();
        int former = now.cup.hands[judge];
        now.cup.hands[judge] = hand;
        return former;
    }

    public int pot(int level) {
        if (level < 0 || level > TOP_POT) {
            now.refused[REFUSED_ACTS]++;
            return NONE;
        }
        now.keepAct();
        int former = now.cup.pot;
        now.cup.pot = level;
        return former;
    }

    public int put(int leaf, int place) throws NoSuchElementException {
        needLeaf(leaf);
        needPlace(place);
        int former = now.cup.places[leaf];
        if (former == place) {
            now.refused[REFUSED_ACTS]++;
            return NONE;
        }
        now.keepAct();
        now.cup.places[leaf] = place;
        return former;
    }

    public int undo() {
        if (now.acts == 0) {
            return NONE;
        }
        now.takeBackAct();
        return now.acts;
    }

    // ---- if only cases go by

    private void startTrial() {
        trial.copyFrom(now.cup);
    }

    private void goAhead(int many) {
        startTrial();
        for (int k = 0; k < many && k < CASES_AHEAD; k++) {
            trial.hear(court, reckoner);
        }
    }

    public int verdict(int k, int what) throws NoSuchElementException, IllegalArgumentException {
        needWhat(what, 1);
        needWithin(k, 1, CASES_AHEAD);
        goAhead(k);
        return what == 0 ? trial.latest : trial.level;
    }

    public int lies(int leaf, int cases) throws NoSuchElementException, IllegalArgumentException {
        needLeaf(leaf);
        needWithin(cases, 0, CASES_AHEAD);
        goAhead(cases);
        return trial.places[leaf];
    }

    public int often(int verdict, int cases) throws NoSuchElementException, IllegalArgumentException {
        needVerdict(verdict);
        needWithin(cases, 0, CASES_AHEAD);
        startTrial();
        int times = 0;
        for (int k = 0; k < cases; k++) {
            if (nextVerdict() == verdict) {
                times++;
            }
        }
        return times;
    }

    private int nextVerdict() {
        trial.hear(court, reckoner);
        return trial.latest;
    }

    public int first(int verdict) throws NoSuchElementException {
        needVerdict(verdict);
        startTrial();
        for (int k = 1; k <= CASES_AHEAD; k++) {
            if (nextVerdict() == verdict) {
                return k;
            }
        }
        return NONE;
    }

    public int round() {
        startTrial();
        for (int k = 1; k <= CASES_AHEAD; k++) {
            trial.hear(court, reckoner);
            if (trial.liesLike(now.cup, court.leaves)) {
                return k;
            }
        }
        return NONE;
    }

    public int pleased(int cases) throws IllegalArgumentException {
        needWithin(cases, 1, CASES_AHEAD);
        clearTally();
        startTrial();
        for (int k = 0; k < cases; k++) {
            int verdict = nextVerdict();
            for (int j = 0; j < court.judges; j++) {
                if (court.wishes[j] == verdict) {
                    tally[j]++;
                }
            }
        }
        return mostInTally(court.judges);
    }

    public int thirstiest(int cases) throws IllegalArgumentException {
        needWithin(cases, 1, CASES_AHEAD);
        clearTally();
        startTrial();
        for (int k = 0; k < cases; k++) {
            trial.hear(court, reckoner);
            for (int j = 0; j < court.judges; j++) {
                tally[j] += trial.sips[j];
            }
        }
        return mostInTally(court.judges);
    }

    private void clearTally() {
        for (int i = 0; i < tally.length; i++) {
            tally[i] = 0;
        }
    }

    private int mostInTally(int many) {
        int best = NONE;
        for (int i = 0; i < many && i < tally.length; i++) {
            if (best == NONE || tally[i] > tally[best]) {
                best = i;
            }
        }
        return best;
    }

    public int swept(int cases) throws IllegalArgumentException {
        needWithin(cases, 0, CASES_AHEAD);
        startTrial();
        int bits = trial.placesWithLeaves(court.leaves);
        for (int k = 0; k < cases; k++) {
            trial.hear(court, reckoner);
            bits |= trial.placesWithLeaves(court.leaves);
        }
        return bits;
    }

    public int drunk(int judge, int k) throws NoSuchElementException, IllegalArgumentException {
        needJudge(judge);
        needWithin(k, 1, CASES_AHEAD);
        goAhead(k);
        return trial.sips[judge];
    }

    public int streak(int cases) throws IllegalArgumentException {
        needWithin(cases, 1, CASES_AHEAD);
        startTrial();
        int longest = 0;
        int row = 0;
        int former = NONE;
        for (int k = 0; k < cases; k++) {
            int verdict = nextVerdict();
            row = verdict == former ? row + 1 : 1;
            former = verdict;
            longest = Math.max(longest, row);
        }
        return longest;
    }

    public int come(int cases) throws IllegalArgumentException {
        needWithin(cases, 0, CASES_AHEAD);
        startTrial();
        int bits = 0;
        for (int k = 0; k < cases; k++) {
            bits |= 1 << nextVerdict();
        }
        return bits;
    }

    // ---- the case that comes, if one thing were another

    public int orders(int verdict, int i) throws NoSuchElementException {
        needVerdict(verdict);
        if (i < NONE || i >= court.judges) {
            throw new NoSuchElementException("no such seat");
        }
        if (court.judges > MOST_ORDERED) {
            return NOT_SOUGHT;
        }
        startOrder();
        int many = 0;
        boolean more = true;
        for (int tried = 0; more && tried < ALL_ORDERS; tried++) {
            if (verdictByOrder() == verdict) {
                if (i != NONE) {
                    return order[i];
                }
                many++;
            }
            more = nextOrder(court.judges);
        }
        return i == NONE ? many : NONE;
    }

    private void startOrder() {
        for (int s = 0; s < order.length; s++) {
            order[s] = s;
        }
    }

    private int verdictByOrder() {
        startTrial();
        for (int s = 0; s < court.judges; s++) {
            trial.seats[s] = order[s];
        }
        return nextVerdict();
    }

    /** Goes to the next order by SEATS; false behind the last one. */
    private boolean nextOrder(int many) {
        int rise = many - 2;
        while (rise >= 0 && order[rise] > order[rise + 1]) {
            rise--;
        }
        if (rise < 0) {
            return false;
        }
        int next = many - 1;
        while (next > rise && order[next] < order[rise]) {
            next--;
        }
        swapInOrder(rise, next);
        for (int low = rise + 1, high = many - 1; low < high; low++, high--) {
            swapInOrder(low, high);
        }
        return true;
    }

    private void swapInOrder(int a, int b) {
        int held = order[a];
        order[a] = order[b];
        order[b] = held;
    }

    public int decisive() {
        startTrial();
        int verdict = nextVerdict();
        int bits = 0;
        for (int j = 0; j < court.judges; j++) {
            if (verdictIfTurned(1 << j) != verdict) {
                bits |= 1 << j;
            }
        }
        return bits;
    }

    private int verdictIfTurned(int judges) {
        startTrial();
        for (int j = 0; j < court.judges; j++) {
            if ((judges >> j & 1) == 1) {
                trial.hands[j] = TOP_HAND - trial.hands[j];
            }
        }
        return nextVerdict();
    }

    public int toTurn(int verdict) throws NoSuchElementException {
        needVerdict(verdict);
        int best = NONE;
        for (int bits = 0; bits < 1 << court.judges; bits++) {
            boolean fewer = best == NONE || Integer.bitCount(bits) < Integer.bitCount(best);
            if (fewer && verdictIfTurned(bits) == verdict) {
                best = bits;
            }
        }
        return best;
    }

    public int toDrink(int judge, int verdict) throws NoSuchElementException {
        needJudge(judge);
        needVerdict(verdict);
        for (int thirst = 0; thirst <= TOP_THIRST; thirst++) {
            startTrial();
            trial.thirsts[judge] = thirst;
            if (nextVerdict() == verdict) {
                return thirst;
            }
        }
        return NONE;
    }

    public int toPour(int verdict) throws NoSuchElementException {
        needVerdict(verdict);
        for (int pot = 0; pot <= TOP_POT; pot++) {
            startTrial();
            trial.pot = pot;
            if (nextVerdict() == verdict) {
                return pot;
            }
        }
        return NONE;
    }

    public int toLay(int leaf, int verdict) throws NoSuchElementException {
        needLeaf(leaf);
        needVerdict(verdict);
        for (int place = 0; place < PLACES; place++) {
            startTrial();
            trial.places[leaf] = place;
            if (nextVerdict() == verdict) {
                return place;
            }
        }
        return NONE;
    }

    public int better(int judge) throws NoSuchElementException {
        needJudge(judge);
        int wish = court.wishes[judge];
        startTrial();
        if (nextVerdict() == wish) {
            return NONE;
        }
        for (int other = 0; other < court.judges; other++) {
            if (other != judge) {
                startTrial();
                trial.swap(judge, other, court.judges);
                if (nextVerdict() == wish) {
                    return other;
                }
            }
        }
        return NONE;
    }

    // ---- what was read

    public int read(int k, int verdict) throws NoSuchElementException {
        needVerdict(verdict);
        if (k < 1 || k > CASES_AT_ONCE || now.reads >= MOST_READ) {
            now.refused[REFUSED_READ]++;
            return NONE;
        }
        now.readCases[now.reads] = k;
        now.readVerdicts[now.reads] = verdict;
        now.reads++;
        return now.reads;
    }

    public void forget() {
        now.reads = 0;
    }

    public int handed(int what) throws NoSuchElementException {
        needWhat(what, 2);
        if (what == 2) {
            startTrial();
            return trialIsAsRead() ? 1 : 0;
        }
        int many = 0;
        for (int j = 0; j < court.judges; j++) {
            for (int hand = 0; hand <= TOP_HAND; hand++) {
                if (isHanded(j, hand)) {
                    if (what == 1) {
                        return 100 * j + hand;
                    }
                    many++;
                }
            }
        }
        return what == 0 ? many : NONE;
    }

    private boolean isHanded(int judge, int hand) {
        if (now.cup.hands[judge] == hand) {
            return false;
        }
        startTrial();
        trial.hands[judge] = hand;
        return trialIsAsRead();
    }

    private boolean trialIsAsRead() {
        int last = now.lastReadCase();
        for (int k = 1; k <= last; k++) {
            trial.hear(court, reckoner);
            if (!now.couldBe(k, trial.latest)) {
                return false;
            }
        }
        return true;
    }

    public int look(int what) throws NoSuchElementException {
        needWhat(what, 1);
        for (int k = 0; k < unlike.length; k++) {
            unlike[k] = 0;
        }
        for (int j = 0; j < court.judges; j++) {
            for (int hand = 0; hand <= TOP_HAND; hand++) {
                if (now.cup.hands[j] != hand) {
                    noteIfAsRead(j, hand);
                }
            }
        }
        int best = 0;
        for (int k = 1; k < unlike.length; k++) {
            if (Integer.bitCount(unlike[k]) > Integer.bitCount(unlike[best])) {
                best = k;
            }
        }
        int many = Integer.bitCount(unlike[best]);
        if (what == 1) {
            return many;
        }
        return many == 0 ? NONE : best + 1;
    }

    /** Notes the VERDICTS that would come by a HAND, unless something READ would not be so. */
    private void noteIfAsRead(int judge, int hand) {
        startTrial();
        trial.hands[judge] = hand;
        for (int k = 0; k < foreseen.length; k++) {
            trial.hear(court, reckoner);
            foreseen[k] = trial.latest;
            if (!now.couldBe(k + 1, trial.latest)) {
                return;
            }
        }
        for (int k = 0; k < foreseen.length; k++) {
            unlike[k] |= 1 << foreseen[k];
        }
    }

    // ---- a game, and years

    public int game(int judge, int other, int what) throws NoSuchElementException, IllegalArgumentException {
        needJudge(judge);
        needJudge(other);
        needWhat(what, 1);
        if (judge == other) {
            throw new IllegalArgumentException("both are one");
        }
        for (int couple = 0; couple < outcomes.length; couple++) {
            outcomes[couple] = verdictIfTurned((couple >> 1) << judge | (couple & 1) << other);
        }
        int many = 0;
        for (int couple = 0; couple < outcomes.length; couple++) {
            if (rests(couple, court.wishes[judge], court.wishes[other])) {
                if (what == 1) {
                    return 10 * (couple >> 1) + (couple & 1);
                }
                many++;
            }
        }
        return what == 0 ? many : NONE;
    }

    /** A couple is 2 by the first one's choice, and the other one's. */
    private boolean rests(int couple, int wish, int otherWish) {
        return gain(couple, wish, couple >> 1) >= gain(couple ^ 2, wish, couple >> 1 ^ 1)
            && gain(couple, otherWish, couple & 1) >= gain(couple ^ 1, otherWish, couple & 1 ^ 1);
    }

    private int gain(int couple, int wish, int turned) {
        boolean in = couple >= 0 && couple < outcomes.length;
        return (in && outcomes[couple] == wish ? WISH_GAIN : 0) - turned;
    }

    public int years(int seed, int n, int what) throws NoSuchElementException, IllegalArgumentException {
        needWhat(what, 2);
        needWithin(n, 0, CASES_AHEAD);
        this.seed = seed;
        clearTally();
        startTrial();
        int wishes = 0;
        for (int k = 0; k < n; k++) {
            befall();
            int verdict = nextVerdict();
            if (verdict >= 0 && verdict < tally.length) {
                tally[verdict]++;
            }
            wishes += Integer.bitCount(partyOf(verdict));
        }
        if (what == 2) {
            return wishes;
        }
        int best = mostInTally(VERDICTS);
        if (what == 0) {
            return best == NONE ? 0 : tally[best];
        }
        return n == 0 ? NONE : best;
    }

    private void befall() {
        switch (draw(6)) {
            case 0:
                if (court.leaves > 0) {
                    int leaf = draw(court.leaves);
                    trial.places[leaf] = draw(PLACES);
                }
                break;
            case 1:
                if (court.judges > 0) {
                    int judge = draw(court.judges);
                    trial.hands[judge] = draw(TOP_HAND + 1);
                }
                break;
            case 2:
                trial.pot = draw(TOP_POT + 1);
                break;
            default:
                break;
        }
    }

    private int draw(int n) {
        seed = seed * 1103515245 + 12345;
        return n < 1 ? 0 : (seed >> 16 & 32767) % n;
    }

    // ---- the image

    public void image() {
        kept.copyFrom(now);
        imaged = true;
    }

    public boolean restore() {
        if (!imaged) {
            return false;
        }
        now.copyFrom(kept);
        return true;
    }

    /** What a text tells; nothing of it changes until the next text. */
    private static final class Court {
        int leaves;
        final int[] places = new int[MOST_LEAVES];
        final int[] weights = new int[MOST_LEAVES];
        int judges;
        final int[] thirsts = new int[MOST_JUDGES];
        final int[] hands = new int[MOST_JUDGES];
        final int[] wishes = new int[MOST_JUDGES];
        final boolean[] barristers = new boolean[MOST_JUDGES];
        int pot;
        boolean potTold;
        // Both rules share one row: each byte of a text brings one step at most.
        final int[] steps = new int[TAPE_BYTES];
        int stepCount;
        final int[] ruleFrom = new int[2];
        final int[] ruleTo = new int[2];
        final boolean[] ruleTold = new boolean[2];
        // Whether the LEAVES must be counted for it.
        final boolean[] ruleLooks = new boolean[2];

        Court() {
            pot = USUAL_POT;
        }

        void clear() {
            leaves = 0;
            judges = 0;
            pot = USUAL_POT;
            potTold = false;
            stepCount = 0;
            ruleTold[DRINKS] = false;
            ruleTold[READS] = false;
            ruleLooks[DRINKS] = false;
            ruleLooks[READS] = false;
        }

        void addStep(int step) {
            if (stepCount < steps.length) {
                steps[stepCount] = step;
                stepCount++;
            }
        }
    }

    /** All that CASES and ACTS change, and what a CASE needs by the way. */
    private static final class Cup {
        private static final int SAVED = MOST_LEAVES + 2 * MOST_JUDGES + 3;

        final int[] places = new int[MOST_LEAVES];
        final int[] thirsts = new int[MOST_JUDGES];
        final int[] hands = new int[MOST_JUDGES];
        final int[] seats = new int[MOST_JUDGES];
        final int[] sips = new int[MOST_JUDGES];
        int pot;
        int number;
        int latest;
        int level;

        Cup() {
            pot = USUAL_POT;
            latest = NONE;
        }

        void open(Court court) {
            for (int l = 0; l < MOST_LEAVES; l++) {
                places[l] = court.places[l];
            }
            for (int j = 0; j < MOST_JUDGES; j++) {
                thirsts[j] = court.thirsts[j];
                hands[j] = court.hands[j];
                seats[j] = j;
            }
            pot = court.pot;
            number = 0;
            latest = NONE;
        }

        void copyFrom(Cup other) {
            System.arraycopy(other.places, 0, places, 0, MOST_LEAVES);
            System.arraycopy(other.thirsts, 0, thirsts, 0, MOST_JUDGES);
            System.arraycopy(other.hands, 0, hands, 0, MOST_JUDGES);
            System.arraycopy(other.seats, 0, seats, 0, MOST_JUDGES);
            pot = other.pot;
            number = other.number;
            latest = other.latest;
        }

        void save(int[] row, int from) {
            if (from < 0 || from > row.length - SAVED) {
                return;
            }
            System.arraycopy(places, 0, row, from, MOST_LEAVES);
            System.arraycopy(hands, 0, row, from + MOST_LEAVES, MOST_JUDGES);
            System.arraycopy(seats, 0, row, from + MOST_LEAVES + MOST_JUDGES, MOST_JUDGES);
            row[from + SAVED - 3] = pot;
            row[from + SAVED - 2] = number;
            row[from + SAVED - 1] = latest;
        }

        void load(int[] row, int from) {
            if (from < 0 || from > row.length - SAVED) {
                return;
            }
            System.arraycopy(row, from, places, 0, MOST_LEAVES);
            System.arraycopy(row, from + MOST_LEAVES, hands, 0, MOST_JUDGES);
            System.arraycopy(row, from + MOST_LEAVES + MOST_JUDGES, seats, 0, MOST_JUDGES);
            pot = row[from + SAVED - 3];
            number = row[from + SAVED - 2];
            latest = row[from + SAVED - 1];
        }

        int seatOf(int judge, int judges) {
            for (int s = 0; s < judges; s++) {
                if (seats[s] == judge) {
                    return s;
                }
            }
            return NONE;
        }

        void swap(int judge, int other, int judges) {
            int here = seatOf(judge, judges);
            int there = seatOf(other, judges);
            if (here >= 0 && there >= 0) {
                seats[here] = other;
                seats[there] = judge;
            }
        }

        boolean liesLike(Cup other, int leaves) {
            for (int l = 0; l < leaves; l++) {
                if (places[l] != other.places[l]) {
                    return false;
                }
            }
            return true;
        }

        int placesWithLeaves(int leaves) {
            int bits = 0;
            for (int l = 0; l < leaves; l++) {
                bits |= 1 << places[l];
            }
            return bits;
        }

        /** A CASE goes by. */
        void hear(Court court, Reckoner reckoner) {
            level = pot;
            for (int seat = 0; seat < court.judges; seat++) {
                int judge = seats[seat];
                if (judge < 0 || judge >= MOST_JUDGES) {
                    continue;
                }
                boolean last = seat == court.judges - 1;
                int sip = last ? 0 : sipOf(judge, seat, court, reckoner);
                sips[judge] = sip;
                level -= sip;
                stirBy(hands[judge], court);
                if (court.barristers[judge]) {
                    blow(court.leaves);
                }
            }
            latest = Math.floorMod(reckoner.reading(court, this), VERDICTS);
            number++;
        }

        private int sipOf(int judge, int seat, Court court, Reckoner reckoner) {
            int wanted = thirsts[judge];
            if (court.ruleTold[DRINKS]) {
                wanted = reckoner.valueOf(court, DRINKS, this, wanted, seat);
            }
            return Math.max(0, Math.min(wanted, level));
        }

        private void stirBy(int hand, Court court) {
            int push = push(hand, level);
            for (int l = 0; l < court.leaves && push != 0; l++) {
                places[l] = stirred(places[l], push, court.weights[l]);
            }
        }

        static int push(int hand, int level) {
            return (hand - STILL_HAND) * (level / 10);
        }

        static int stirred(int place, int push, int weight) {
            int way = weight < 1 ? 0 : push / weight;
            return Math.floorMod(place + way, PLACES);
        }

        /** Leaf by leaf: one that has gone on is where it went for those behind it. */
        private void blow(int leaves) {
            for (int l = 1; l < leaves; l++) {
                for (int lesser = 0; lesser < l; lesser++) {
                    if (places[lesser] == places[l]) {
                        places[l] = (places[l] + 1) % PLACES;
                        break;
                    }
                }
            }
        }
    }

    /** All that an image keeps. */
    private static final class Docket {
        final Cup cup = new Cup();
        // The cup as it was ahead of each ACT; the rows go round, so that the oldest one gives way.
        private final int[] former = new int[KEPT_ACTS * Cup.SAVED];
        private int oldest;
        int acts;
        final int[] readCases = new int[MOST_READ];
        final int[] readVerdicts = new int[MOST_READ];
        int reads;
        final int[] refused = new int[3];

        void open(Court court) {
            cup.open(court);
            acts = 0;
            reads = 0;
        }

        void copyFrom(Docket other) {
            cup.copyFrom(other.cup);
            System.arraycopy(other.former, 0, former, 0, former.length);
            oldest = other.oldest;
            acts = other.acts;
            System.arraycopy(other.readCases, 0, readCases, 0, MOST_READ);
            System.arraycopy(other.readVerdicts, 0, readVerdicts, 0, MOST_READ);
            reads = other.reads;
            System.arraycopy(other.refused, 0, refused, 0, refused.length);
        }

        /** To be called ahead of an ACT. */
        void keepAct() {
            if (acts == KEPT_ACTS) {
                oldest = (oldest + 1) % KEPT_ACTS;
                acts--;
            }
            cup.save(former, (oldest + acts) % KEPT_ACTS * Cup.SAVED);
            acts++;
        }

        void takeBackAct() {
            if (acts > 0) {
                acts--;
                cup.load(former, (oldest + acts) % KEPT_ACTS * Cup.SAVED);
            }
        }

        int lastReadCase() {
            int last = 0;
            for (int r = 0; r < reads; r++) {
                last = Math.max(last, readCases[r]);
            }
            return last;
        }

        boolean couldBe(int k, int verdict) {
            for (int r = 0; r < reads; r++) {
                if (readCases[r] == k && readVerdicts[r] != verdict) {
                    return false;
                }
            }
            return true;
        }
    }

    /** Works out rules, and what they look at. */
    private static final class Reckoner {
        // Seven EXPRs within one another hold five numbers each at most, and one more.
        private final int[] stack = new int[64];
        private final int[] heaps = new int[PLACES];
        int most;
        int where;
        int odd;

        void survey(Court court, Cup cup) {
            for (int p = 0; p < PLACES; p++) {
                heaps[p] = 0;
            }
            odd = 0;
            for (int l = 0; l < court.leaves; l++) {
                int place = cup.places[l];
                if (place >= 0 && place < PLACES) {
                    heaps[place]++;
                    odd += place & 1;
                }
            }
            most = 0;
            where = 0;
            for (int p = 0; p < PLACES; p++) {
                if (heaps[p] > most) {
                    most = heaps[p];
                    where = p;
                }
            }
        }

        /** By the heaps of the latest survey. */
        int widestGap() {
            int widest = 0;
            int row = 0;
            for (int p = 0; p < 2 * PLACES; p++) {
                row = heaps[p % PLACES] == 0 ? row + 1 : 0;
                widest = Math.max(widest, row);
            }
            return Math.min(widest, PLACES);
        }

        int reading(Court court, Cup cup) {
            if (court.ruleTold[READS]) {
                return valueOf(court, READS, cup, 0, 0);
            }
            survey(court, cup);
            return where + most;
        }

        int valueOf(Court court, int rule, Cup cup, int thirst, int seat) {
            if (court.ruleLooks[rule]) {
                survey(court, cup);
            }
            int height = 0;
            int to = Math.min(court.ruleTo[rule], court.steps.length);
            for (int i = Math.max(0, court.ruleFrom[rule]); i < to; i++) {
                int step = court.steps[i];
                if (step >= 0 || step < LAST_OPERATOR) {
                    if (height < stack.length) {
                        stack[height] = step >= 0 ? step : named(step, cup, thirst, seat);
                        height++;
                    }
                } else if (step == OP_NOT) {
                    if (height >= 1) {
                        stack[height - 1] = stack[height - 1] == 0 ? 1 : 0;
                    }
                } else if (height >= 2) {
                    height--;
                    stack[height - 1] = joined(step, stack[height - 1], stack[height]);
                }
            }
            return height >= 1 ? stack[height - 1] : 0;
        }

        private int named(int value, Cup cup, int thirst, int seat) {
            switch (value) {
                case VALUE_LEVEL: return cup.level;
                case VALUE_MOST: return most;
                case VALUE_WHERE: return where;
                case VALUE_ODD: return odd;
                case VALUE_CASE: return cup.number;
                case VALUE_THIRST: return thirst;
                default: return seat;
            }
        }

        private static int joined(int operator, int left, int right) {
            switch (operator) {
                case OP_OR: return left != 0 || right != 0 ? 1 : 0;
                case OP_AND: return left != 0 && right != 0 ? 1 : 0;
                case OP_LESS: return left < right ? 1 : 0;
                case OP_SAME: return left == right ? 1 : 0;
                case OP_PLUS: return left + right;
                case OP_MINUS: return left - right;
                case OP_TIMES: return left * right;
                default: return right == 0 ? 0 : left / right;
            }
        }
    }

    /** Takes a text down as a Court, token by token; stops at the first FAULT. */
    private static final class Clerk {
        private static final int END = 0;
        private static final int WORD = 1;
        private static final int NUMBER = 2;
        // A sign, or a byte that is no token: none is ever asked for, so it stands nowhere.
        private static final int SIGN = 3;

        private static final int MOST_DIGITS = 4;
        private static final int EXPRS_WITHIN = 6;
        private static final int NOTS_IN_A_ROW = 6;

        private int[] text = new int[0];
        private int length;
        // A draft of its own, so that a FAULT leaves the court that is heard as it is.
        private Court court = new Court();
        private int rule;
        // The token that is looked at: its first byte, and the one behind its last.
        int at;
        private int behind;
        private int kind;
        private int value;
        private int taken;
        private int faultKind;

        /** Gives the draft away for a court that is no longer needed, which the next draft overwrites. */
        Court handOver(Court former) {
            Court draft = court;
            court = former;
            return draft;
        }

        /** 0, or the FAULT, which is at 'at' then. */
        int takeDown(int[] bytes, int n) {
            text = bytes;
            length = Math.max(0, Math.min(n, text.length));
            court.clear();
            behind = 0;
            faultKind = 0;
            advance();
            boolean well = true;
            for (int lines = 0; well && kind != END && lines <= length; lines++) {
                well = takeLine() && takeSign(';');
            }
            return faultKind;
        }

        private boolean refuse(int number) {
            faultKind = number;
            return false;
        }

        // ---- tokens

        private int byteAt(int place) {
            return place >= 0 && place < length && place < text.length ? text[place] : -1;
        }

        private static boolean isBlank(int c) {
            return c == 32 || c == 10;
        }

        private static boolean isLetter(int c) {
            return c >= 'a' && c <= 'z';
        }

        private static boolean isDigit(int c) {
            return c >= '0' && c <= '9';
        }

        private void advance() {
            at = behind;
            while (at < length && isBlank(byteAt(at))) {
                at++;
            }
            behind = at;
            value = 0;
            if (at >= length) {
                kind = END;
            } else if (isLetter(byteAt(at))) {
                kind = WORD;
                while (behind < length && isLetter(byteAt(behind))) {
                    behind++;
                }
            } else if (isDigit(byteAt(at))) {
                kind = NUMBER;
                while (behind < length && isDigit(byteAt(behind))) {
                    value = isTooLong() ? value : 10 * value + byteAt(behind) - '0';
                    behind++;
                }
            } else {
                kind = SIGN;
                value = byteAt(at);
                behind++;
            }
        }

        private boolean isTooLong() {
            return behind - at > MOST_DIGITS;
        }

        private boolean isWord(String word) {
            if (kind != WORD || behind - at != word.length()) {
                return false;
            }
            for (int i = 0; i < word.length(); i++) {
                if (at + i >= text.length || text[at + i] != word.charAt(i)) {
                    return false;
                }
            }
            return true;
        }

        private boolean isSign(int sign) {
            return kind == SIGN && value == sign;
        }

        private boolean takeSign(int sign) {
            if (!isSign(sign)) {
                return refuse(1);
            }
            advance();
            return true;
        }

        /** Leaves the NUMBER in 'taken'. */
        private boolean takeNumber(int least, int top) {
            if (kind != NUMBER) {
                return refuse(1);
            }
            if (isTooLong() || value < least || value > top) {
                return refuse(2);
            }
            taken = value;
            advance();
            return true;
        }

        // ---- lines

        private boolean takeLine() {
            if (isWord("leaf")) {
                return takeLeaf();
            }
            if (isWord("judge") || isWord("barrister")) {
                return takeJudge(isWord("barrister"));
            }
            if (isWord("pot")) {
                return takePot();
            }
            if (isWord("drinks")) {
                return takeRule(DRINKS);
            }
            if (isWord("reads")) {
                return takeRule(READS);
            }
            return refuse(1);
        }

        private boolean takeLeaf() {
            int l = court.leaves;
            if (l >= MOST_LEAVES) {
                return refuse(2);
            }
            advance();
            if (!takeNumber(0, PLACES - 1)) {
                return false;
            }
            court.places[l] = taken;
            if (!takeNumber(1, TOP_WEIGHT)) {
                return false;
            }
            court.weights[l] = taken;
            court.leaves = l + 1;
            return true;
        }

        private boolean takeJudge(boolean barrister) {
            int j = court.judges;
            if (j >= MOST_JUDGES) {
                return refuse(2);
            }
            advance();
            if (!takeNumber(0, TOP_THIRST)) {
                return false;
            }
            court.thirsts[j] = taken;
            if (!takeNumber(0, TOP_HAND)) {
                return false;
            }
            court.hands[j] = taken;
            if (!takeNumber(0, VERDICTS - 1)) {
                return false;
            }
            court.wishes[j] = taken;
            court.barristers[j] = barrister;
            court.judges = j + 1;
            return true;
        }

        private boolean takePot() {
            if (court.potTold) {
                return refuse(5);
            }
            court.potTold = true;
            advance();
            if (!takeNumber(0, TOP_POT)) {
                return false;
            }
            court.pot = taken;
            return true;
        }

        private boolean takeRule(int which) {
            if (court.ruleTold[which]) {
                return refuse(5);
            }
            court.ruleTold[which] = true;
            rule = which;
            advance();
            court.ruleFrom[which] = court.stepCount;
            boolean well = takeExpr(0);
            court.ruleTo[which] = court.stepCount;
            return well;
        }

        // ---- rules

        private boolean takeExpr(int within) {
            if (within >= EXPRS_WITHIN) {
                return refuse(kind == NUMBER || kind == WORD || isSign('(') ? 2 : 1);
            }
            if (!takeAnd(within)) {
                return false;
            }
            for (int i = 0; i < length && isWord("or"); i++) {
                advance();
                if (!takeAnd(within)) {
                    return false;
                }
                court.addStep(OP_OR);
            }
            return true;
        }

        private boolean takeAnd(int within) {
            if (!takeNot(within)) {
                return false;
            }
            for (int i = 0; i < length && isWord("and"); i++) {
                advance();
                if (!takeNot(within)) {
                    return false;
                }
                court.addStep(OP_AND);
            }
            return true;
        }

        private boolean takeNot(int within) {
            int nots = 0;
            while (nots < NOTS_IN_A_ROW && isWord("not")) {
                advance();
                nots++;
            }
            if (nots == NOTS_IN_A_ROW && isWord("not")) {
                return refuse(2);
            }
            if (!takeTest(within)) {
                return false;
            }
            for (int i = 0; i < nots; i++) {
                court.addStep(OP_NOT);
            }
            return true;
        }

        private boolean takeTest(int within) {
            if (!takeSum(within)) {
                return false;
            }
            boolean less = isSign('<');
            if (!less && !isSign('=')) {
                return true;
            }
            advance();
            if (!takeSum(within)) {
                return false;
            }
            court.addStep(less ? OP_LESS : OP_SAME);
            return true;
        }

        private boolean takeSum(int within) {
            if (!takeProduct(within)) {
                return false;
            }
            for (int i = 0; i < length && (isSign('+') || isSign('-')); i++) {
                int operator = isSign('+') ? OP_PLUS : OP_MINUS;
                advance();
                if (!takeProduct(within)) {
                    return false;
                }
                court.addStep(operator);
            }
            return true;
        }

        private boolean takeProduct(int within) {
            if (!takePart(within)) {
                return false;
            }
            for (int i = 0; i < length && (isSign('*') || isSign('/')); i++) {
                int operator = isSign('*') ? OP_TIMES : OP_PARTED;
                advance();
                if (!takePart(within)) {
                    return false;
                }
                court.addStep(operator);
            }
            return true;
        }

        private boolean takePart(int within) {
            if (isSign('(')) {
                advance();
                return takeExpr(within + 1) && takeSign(')');
            }
            if (kind == WORD) {
                int named = valueNamed();
                if (named == 0) {
                    return refuse(3);
                }
                court.addStep(named);
                if (named == VALUE_MOST || named == VALUE_WHERE || named == VALUE_ODD) {
                    court.ruleLooks[rule] = true;
                }
            } else if (kind != NUMBER) {
                return refuse(1);
            } else if (isTooLong()) {
                return refuse(2);
            } else {
                court.addStep(value);
            }
            advance();
            return true;
        }

        /** 0, if the word is no VALUE of this EXPR. */
        private int valueNamed() {
            if (isWord("level")) {
                return VALUE_LEVEL;
            }
            if (isWord("most")) {
                return VALUE_MOST;
            }
            if (isWord("where")) {
                return VALUE_WHERE;
            }
            if (isWord("odd")) {
                return VALUE_ODD;
            }
            if (isWord("case")) {
                return VALUE_CASE;
            }
            if (rule == DRINKS && isWord("thirst")) {
                return VALUE_THIRST;
            }
            return rule == DRINKS && isWord("seat") ? VALUE_SEAT : 0;
        }
    }
}
