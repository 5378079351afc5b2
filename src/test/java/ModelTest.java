import java.nio.charset.StandardCharsets;
import java.util.Random;

/** Random runs of calls on the class and on PlainCourt, which must answer alike. */
public final class ModelTest {
    private static final int RUNS = 300;
    private static final int CALLS = 512;

    private final Random random;
    private final DregsVerdict x = new DregsVerdict();
    private final PlainCourt plain = new PlainCourt();

    private ModelTest(long seed) {
        random = new Random(seed);
    }

    public static void main(String[] args) {
        for (int run = 0; run < RUNS; run++) {
            new ModelTest(run).run(run);
        }
        for (int run = 0; run < 200; run++) {
            new ModelTest(1000000 + run).texts(run);
        }
        Due.end();
    }

    private int upTo(int n) {
        return random.nextInt(n);
    }

    private void run(int run) {
        Due.promise("run " + run);
        // Short and long runs: faults that only come behind many acts, and states near the beginning.
        int calls = run % 3 == 0 ? CALLS : 120;
        if (run % 7 != 0) {
            tellBoth(RandomText.court(random));
        }
        for (int i = 0; i < calls; i++) {
            step();
        }
    }

    private void texts(int run) {
        Due.promise("texts " + run);
        for (int i = 0; i < 40; i++) {
            String text = RandomText.court(random);
            tellBoth(random.nextBoolean() ? RandomText.spoilt(random, text) : text);
            both("count(3)", () -> x.count(3), () -> plain.count(3));
            both("verdict(1, 0)", () -> x.verdict(1, 0), () -> plain.verdict(1, 0));
            both("verdict(9, 1)", () -> x.verdict(9, 1), () -> plain.verdict(9, 1));
            both("count(12)", () -> x.count(12), () -> plain.count(12));
            both("count(11)", () -> x.count(11), () -> plain.count(11));
        }
    }

    private void both(String call, Due.Call got, Due.Call want) {
        Due.is(call, got, Due.answerOf(want));
    }

    private void tellBoth(String text) {
        byte[] bytes = text.getBytes(StandardCharsets.ISO_8859_1);
        for (int from = 0; from < bytes.length; from += 20) {
            int[] n = new int[5];
            for (int i = 0; i < 20; i++) {
                n[i / 4] = n[i / 4] << 8 | (from + i < bytes.length ? bytes[from + i] & 255 : 32);
            }
            both("feed", () -> x.feed(n[0], n[1], n[2], n[3], n[4]), () -> plain.feed(n[0], n[1], n[2], n[3], n[4]));
        }
        int length = Math.min(bytes.length, x.count(11));
        both("court of '" + text + "'", () -> x.court(length), () -> plain.court(length));
        both("fault() of '" + text + "'", x::fault, () -> plain.faultPlace);
    }

    /** A number for which there mostly is such a thing, of 'many' ones. */
    private int some(int many) {
        int of = upTo(25);
        return of == 0 ? many : of == 1 ? -1 : of == 2 ? many + 1 + upTo(5) : many < 1 ? 0 : upTo(many);
    }

    private int leaf() {
        return some(plain.told.leaves.size());
    }

    private int judge() {
        return some(plain.told.judges.size());
    }

    private int cases() {
        int of = upTo(20);
        return of == 0 ? 0 : of == 1 ? 60 : of == 2 ? 61 : of == 3 ? -1 : of < 15 ? upTo(12) : upTo(61);
    }

    private void step() {
        int kind = upTo(60);
        if (kind < 12) {
            act(kind);
        } else if (kind < 24) {
            seen(kind - 12);
        } else if (kind < 35) {
            ahead(kind - 24);
        } else if (kind < 43) {
            might(kind - 35);
        } else {
            told(kind - 43);
        }
        both("count(2)", () -> x.count(2), () -> plain.count(2));
    }

    private void act(int kind) {
        int j = judge();
        int o = judge();
        int l = leaf();
        int n = upTo(110) - 4;
        switch (kind) {
            case 0, 1 -> {
                int many = upTo(20) == 0 ? 20 + upTo(3) : upTo(10) == 0 ? -upTo(3) : 1 + upTo(20);
                both("cases(" + many + ")", () -> x.cases(many), () -> plain.cases(many));
            }
            case 2, 3 -> both("change(" + j + ", " + o + ")", () -> x.change(j, o) ? 1 : 0, () -> plain.change(j, o));
            case 4, 5 -> {
                int hand = some(13);
                both("hand(" + j + ", " + hand + ")", () -> x.hand(j, hand), () -> plain.hand(j, hand));
            }
            case 6, 7 -> both("pot(" + n + ")", () -> x.pot(n), () -> plain.pot(n));
            case 8, 9 -> {
                int place = some(12);
                both("put(" + l + ", " + place + ")", () -> x.put(l, place), () -> plain.put(l, place));
            }
            default -> both("undo()", x::undo, plain::undo);
        }
    }

    private void seen(int kind) {
        int j = judge();
        int l = leaf();
        int o = leaf();
        switch (kind) {
            case 0, 1, 2 -> {
                int what = some(15);
                both("count(" + what + ")", () -> x.count(what), () -> plain.count(what));
            }
            case 3 -> {
                int what = some(2);
                both("leaf(" + l + ", " + what + ")", () -> x.leaf(l, what), () -> plain.leaf(l, what));
            }
            case 4, 5 -> {
                int what = some(6);
                both("judge(" + j + ", " + what + ")", () -> x.judge(j, what), () -> plain.judge(j, what));
            }
            case 6 -> both("seat(" + j + ")", () -> x.seat(j), () -> plain.seat(j));
            case 7 -> {
                int place = some(12);
                both("heap(" + place + ")", () -> x.heap(place), () -> plain.heap(place));
            }
            case 8 -> {
                int place = some(12);
                both("weight(" + place + ")", () -> x.weight(place), () -> plain.weight(place));
            }
            case 9 -> both("apart(" + l + ", " + o + ")", () -> x.apart(l, o), () -> plain.apart(l, o));
            default -> {
                int level = some(100);
                both("stir(" + j + ", " + l + ", " + level + ")", () -> x.stir(j, l, level), () -> plain.stir(j, l, level));
            }
        }
    }

    private void ahead(int kind) {
        int n = cases();
        int j = judge();
        int l = leaf();
        int v = some(5);
        int what = some(2);
        switch (kind) {
            case 0 -> both("verdict(" + n + ", " + what + ")", () -> x.verdict(n, what), () -> plain.verdict(n, what));
            case 1 -> both("lies(" + l + ", " + n + ")", () -> x.lies(l, n), () -> plain.lies(l, n));
            case 2 -> both("often(" + v + ", " + n + ")", () -> x.often(v, n), () -> plain.often(v, n));
            case 3 -> both("first(" + v + ")", () -> x.first(v), () -> plain.first(v));
            case 4 -> both("round()", x::round, plain::round);
            case 5 -> both("pleased(" + n + ")", () -> x.pleased(n), () -> plain.pleased(n));
            case 6 -> both("swept(" + n + ")", () -> x.swept(n), () -> plain.swept(n));
            case 7 -> both("drunk(" + j + ", " + n + ")", () -> x.drunk(j, n), () -> plain.drunk(j, n));
            case 8 -> both("thirstiest(" + n + ")", () -> x.thirstiest(n), () -> plain.thirstiest(n));
            case 9 -> both("streak(" + n + ")", () -> x.streak(n), () -> plain.streak(n));
            default -> both("come(" + n + ")", () -> x.come(n), () -> plain.come(n));
        }
    }

    private void might(int kind) {
        int j = judge();
        int l = leaf();
        int v = some(5);
        int i = upTo(3) == 0 ? -1 : judge();
        switch (kind) {
            case 0 -> {
                // All orders of six judges are many: seldom.
                if (plain.told.judges.size() != 6 || upTo(8) == 0) {
                    both("orders(" + v + ", " + i + ")", () -> x.orders(v, i), () -> plain.orders(v, i));
                }
            }
            case 1 -> both("decisive()", x::decisive, plain::decisive);
            case 2 -> both("toTurn(" + v + ")", () -> x.toTurn(v), () -> plain.toTurn(v));
            case 3 -> both("toDrink(" + j + ", " + v + ")", () -> x.toDrink(j, v), () -> plain.toDrink(j, v));
            case 4 -> both("toPour(" + v + ")", () -> x.toPour(v), () -> plain.toPour(v));
            case 5 -> both("toLay(" + l + ", " + v + ")", () -> x.toLay(l, v), () -> plain.toLay(l, v));
            default -> both("better(" + j + ")", () -> x.better(j), () -> plain.better(j));
        }
    }

    private void told(int kind) {
        int j = judge();
        int o = judge();
        int v = some(5);
        int n = cases();
        int what = some(3);
        int seed = random.nextInt();
        switch (kind) {
            case 0, 1, 2 -> {
                int k = upTo(15) == 0 ? 20 + upTo(3) : upTo(15) == 0 ? -upTo(3) : 1 + upTo(8);
                // Mostly something that may be so, or nothing would ever be handed.
                int said = upTo(3) == 0 ? v : plain.verdict(Math.max(1, k), 0);
                both("read(" + k + ", " + said + ")", () -> x.read(k, said), () -> plain.read(k, said));
            }
            case 3, 4 -> rarely(3, "handed(" + what + ")", () -> x.handed(what), () -> plain.handed(what));
            case 5 -> {
                int which = some(2);
                rarely(25, "look(" + which + ")", () -> x.look(which), () -> plain.look(which));
            }
            case 6 -> both("forget()", () -> forgotten(true), () -> forgotten(false));
            case 7, 8, 9 -> {
                int which = some(2);
                both("game(" + j + ", " + o + ", " + which + ")", () -> x.game(j, o, which), () -> plain.game(j, o, which));
            }
            case 10, 11, 12 -> both("years(" + seed + ", " + n + ", " + what + ")",
                () -> x.years(seed, n, what), () -> plain.years(seed, n, what));
            case 13 -> {
                x.image();
                plain.image();
            }
            case 14 -> rarely(3, "restore()", () -> x.restore() ? 1 : 0, plain::restore);
            case 15 -> rarely(10, "feed", () -> x.feed(seed, n, 0, 0, 0), () -> plain.feed(seed, n, 0, 0, 0));
            default -> tellSometimes();
        }
    }

    private void tellSometimes() {
        int of = upTo(12);
        if (of == 0) {
            tellBoth(RandomText.court(random));
        } else if (of < 3) {
            tellBoth(RandomText.spoilt(random, RandomText.court(random)));
        } else if (of == 3) {
            int n = x.count(11) + 1;
            both("court(" + n + ")", () -> x.court(n), () -> plain.court(n));
            both("court(-1)", () -> x.court(-1), () -> plain.court(-1));
        }
        both("fault()", x::fault, () -> plain.faultPlace);
    }

    private void rarely(int oneOf, String call, Due.Call got, Due.Call want) {
        if (upTo(oneOf) == 0) {
            both(call, got, want);
        }
    }

    private int forgotten(boolean ofClass) {
        if (ofClass) {
            x.forget();
            return x.count(10);
        }
        plain.forget();
        return plain.count(10);
    }
}
