import java.util.ArrayList;
import java.util.Arrays;
import java.util.List;
import java.util.Map;
import java.util.NoSuchElementException;
import java.util.TreeMap;
import java.util.TreeSet;

/** The document once more, in the plainest form: slow, with new objects for everything. ModelTest sets it beside the class. */
final class PlainCourt {
    // ---- what a text tells

    static final class Fault extends RuntimeException {
        private static final long serialVersionUID = 1L;
        final int kind;
        final int place;

        Fault(int kind, int place) {
            this.kind = kind;
            this.place = place;
        }
    }

    interface Expr {
        int value(Map<String, Integer> of);
    }

    record Token(char kind, String text, int place) {
        boolean is(String other) {
            return text.equals(other) && kind != 'x';
        }
    }

    static final class Text {
        final List<Token> tokens = new ArrayList<>();
        int next;
        List<String> values = List.of();

        Text(String s) {
            int i = 0;
            while (i < s.length()) {
                int from = i;
                char c = s.charAt(i);
                if (c == ' ' || c == '\n') {
                    i++;
                    continue;
                }
                String rest = s.substring(i);
                String word = rest.replaceAll("(?s)^([a-z]*).*$", "$1");
                String digits = rest.replaceAll("(?s)^([0-9]*).*$", "$1");
                if (!word.isEmpty()) {
                    tokens.add(new Token('w', word, from));
                    i += word.length();
                } else if (!digits.isEmpty()) {
                    tokens.add(new Token('n', digits, from));
                    i += digits.length();
                } else {
                    tokens.add(new Token(";()+-*/<=".indexOf(c) >= 0 ? 's' : 'x', "" + c, from));
                    i++;
                }
            }
            tokens.add(new Token('e', "", s.length()));
        }

        Token peek() {
            return tokens.get(next);
        }

        boolean skip(String text) {
            if (peek().kind != 'e' && peek().is(text)) {
                next++;
                return true;
            }
            return false;
        }

        Fault fault(int kind) {
            return new Fault(kind, peek().place);
        }

        void need(String text) {
            if (!skip(text)) {
                throw fault(1);
            }
        }

        int number(int least, int most) {
            if (peek().kind != 'n') {
                throw fault(1);
            }
            if (peek().text.length() > 4) {
                throw fault(2);
            }
            int n = Integer.parseInt(peek().text);
            if (n < least || n > most) {
                throw fault(2);
            }
            next++;
            return n;
        }

        Expr expr(int others) {
            if (others == 6) {
                char kind = peek().kind;
                throw fault(kind == 'n' || kind == 'w' || peek().is("(") ? 2 : 1);
            }
            Expr left = and(others);
            while (skip("or")) {
                Expr a = left;
                Expr b = and(others);
                left = of -> a.value(of) != 0 | b.value(of) != 0 ? 1 : 0;
            }
            return left;
        }

        Expr and(int others) {
            Expr left = not(others, 0);
            while (skip("and")) {
                Expr a = left;
                Expr b = not(others, 0);
                left = of -> a.value(of) != 0 & b.value(of) != 0 ? 1 : 0;
            }
            return left;
        }

        Expr not(int others, int before) {
            if (peek().is("not")) {
                if (before == 6) {
                    throw fault(2);
                }
                next++;
                Expr a = not(others, before + 1);
                return of -> a.value(of) == 0 ? 1 : 0;
            }
            Expr a = sum(others);
            if (skip("<")) {
                Expr b = sum(others);
                return of -> a.value(of) < b.value(of) ? 1 : 0;
            }
            if (skip("=")) {
                Expr b = sum(others);
                return of -> a.value(of) == b.value(of) ? 1 : 0;
            }
            return a;
        }

        Expr sum(int others) {
            Expr left = product(others);
            while (peek().is("+") || peek().is("-")) {
                boolean plus = skip("+") || !skip("-");
                Expr a = left;
                Expr b = product(others);
                left = plus ? of -> a.value(of) + b.value(of) : of -> a.value(of) - b.value(of);
            }
            return left;
        }

        Expr product(int others) {
            Expr left = part(others);
            while (peek().is("*") || peek().is("/")) {
                boolean times = skip("*") || !skip("/");
                Expr a = left;
                Expr b = part(others);
                left = times ? of -> a.value(of) * b.value(of)
                    : of -> b.value(of) == 0 ? 0 : (int) ((long) a.value(of) / b.value(of));
            }
            return left;
        }

        Expr part(int others) {
            Token t = peek();
            if (t.kind == 'n') {
                int n = number(0, 9999);
                return of -> n;
            }
            if (t.kind == 'w') {
                if (!values.contains(t.text)) {
                    throw fault(3);
                }
                next++;
                return of -> of.get(t.text);
            }
            need("(");
            Expr inner = expr(others + 1);
            need(")");
            return inner;
        }
    }

    record Leaf(int place, int weight) {
    }

    record Judge(int thirst, int hand, int wish, boolean blows) {
    }

    static final class Told {
        final List<Leaf> leaves = new ArrayList<>();
        final List<Judge> judges = new ArrayList<>();
        int pot = 60;
        Expr drinks;
        Expr reads;
    }

    static Told told(String s) {
        Told told = new Told();
        Text t = new Text(s);
        boolean potTold = false;
        while (t.peek().kind != 'e') {
            Token head = t.peek();
            switch (head.kind == 'w' ? head.text : "") {
                case "leaf" -> {
                    if (told.leaves.size() == 8) {
                        throw t.fault(2);
                    }
                    t.next++;
                    told.leaves.add(new Leaf(t.number(0, 11), t.number(1, 9)));
                }
                case "judge", "barrister" -> {
                    if (told.judges.size() == 8) {
                        throw t.fault(2);
                    }
                    t.next++;
                    told.judges.add(new Judge(t.number(0, 30), t.number(0, 12), t.number(0, 4), head.is("barrister")));
                }
                case "pot" -> {
                    if (potTold) {
                        throw t.fault(5);
                    }
                    potTold = true;
                    t.next++;
                    told.pot = t.number(0, 99);
                }
                case "drinks" -> {
                    if (told.drinks != null) {
                        throw t.fault(5);
                    }
                    t.next++;
                    t.values = List.of("level", "most", "where", "odd", "case", "thirst", "seat");
                    told.drinks = t.expr(0);
                }
                case "reads" -> {
                    if (told.reads != null) {
                        throw t.fault(5);
                    }
                    t.next++;
                    t.values = List.of("level", "most", "where", "odd", "case");
                    told.reads = t.expr(0);
                }
                default -> throw t.fault(1);
            }
            t.need(";");
        }
        return told;
    }

    // ---- the world as it is at one time

    final class World {
        List<Integer> places = new ArrayList<>();
        List<Integer> thirsts = new ArrayList<>();
        List<Integer> hands = new ArrayList<>();
        List<Integer> seats = new ArrayList<>();
        List<Integer> drunk = new ArrayList<>();
        int pot;
        int number;
        int latest = -1;
        int level;

        World copy() {
            World w = new World();
            w.places = new ArrayList<>(places);
            w.thirsts = new ArrayList<>(thirsts);
            w.hands = new ArrayList<>(hands);
            w.seats = new ArrayList<>(seats);
            w.drunk = new ArrayList<>(drunk);
            w.pot = pot;
            w.number = number;
            w.latest = latest;
            w.level = level;
            return w;
        }

        int at(int place) {
            int many = 0;
            for (int p : places) {
                many += p == place ? 1 : 0;
            }
            return many;
        }

        int most() {
            int most = 0;
            for (int p = 0; p < 12; p++) {
                most = Math.max(most, at(p));
            }
            return most;
        }

        int where() {
            int where = 0;
            while (at(where) != most()) {
                where++;
            }
            return where;
        }

        int odd() {
            return at(1) + at(3) + at(5) + at(7) + at(9) + at(11);
        }

        Map<String, Integer> values() {
            Map<String, Integer> of = new TreeMap<>();
            of.put("level", level);
            of.put("most", most());
            of.put("where", where());
            of.put("odd", odd());
            of.put("case", number);
            return of;
        }

        World hear() {
            level = pot;
            drunk = new ArrayList<>(seats);
            for (int s = 0; s < seats.size(); s++) {
                int j = seats.get(s);
                int drinks = 0;
                if (s + 1 < seats.size()) {
                    drinks = thirsts.get(j);
                    if (told.drinks != null) {
                        Map<String, Integer> of = values();
                        of.put("thirst", thirsts.get(j));
                        of.put("seat", s);
                        drinks = told.drinks.value(of);
                    }
                    drinks = drinks < 0 ? 0 : drinks > level ? level : drinks;
                }
                drunk.set(j, drinks);
                level -= drinks;
                for (int l = 0; l < places.size(); l++) {
                    places.set(l, stirred(places.get(l), hands.get(j), level, told.leaves.get(l).weight));
                }
                if (told.judges.get(j).blows) {
                    for (int l = 0; l < places.size(); l++) {
                        if (places.subList(0, l).contains(places.get(l))) {
                            places.set(l, places.get(l) == 11 ? 0 : places.get(l) + 1);
                        }
                    }
                }
            }
            int read = told.reads == null ? where() + most() : told.reads.value(values());
            latest = (int) ((read % 5L + 5) % 5);
            number++;
            return this;
        }

        World turn(int judge) {
            hands.set(judge, 12 - hands.get(judge));
            return this;
        }

        World swap(int a, int b) {
            int here = seats.indexOf(a);
            int there = seats.indexOf(b);
            seats.set(here, b);
            seats.set(there, a);
            return this;
        }
    }

    static int stirred(int place, int hand, int level, int weight) {
        int way = (hand - 6) * (level / 10) / weight;
        int p = place;
        for (int i = 0; i < Math.abs(way); i++) {
            p = way > 0 ? (p == 11 ? 0 : p + 1) : (p == 0 ? 11 : p - 1);
        }
        return p;
    }

    // ---- the object

    Told told = new Told();
    World now = new World();
    List<World> acts = new ArrayList<>();
    List<int[]> read = new ArrayList<>();
    int[] status = new int[3];
    StringBuilder tape = new StringBuilder();
    int faultPlace = -1;
    boolean imaged;
    World imageNow;
    List<World> imageActs;
    List<int[]> imageRead;
    int[] imageStatus;

    PlainCourt() {
        now.pot = 60;
    }

    private static NoSuchElementException missing() {
        return new NoSuchElementException();
    }

    private static void within(int n, int least, int most) {
        if (n < least || n > most) {
            throw new IllegalArgumentException();
        }
    }

    private static void exists(int n, int many) {
        if (n < 0 || n >= many) {
            throw missing();
        }
    }

    private void hasLeaf(int leaf) {
        exists(leaf, told.leaves.size());
    }

    private void hasJudge(int judge) {
        exists(judge, told.judges.size());
    }

    int feed(int a, int b, int c, int d, int e) {
        if (tape.length() > 680) {
            return -1;
        }
        for (int n : new int[] {a, b, c, d, e}) {
            tape.append((char) (n >> 24 & 255)).append((char) (n >> 16 & 255));
            tape.append((char) (n >> 8 & 255)).append((char) (n & 255));
        }
        return tape.length();
    }

    int court(int n) {
        within(n, 0, tape.length());
        String text = tape.substring(0, n);
        tape.setLength(0);
        try {
            told = told(text);
        } catch (Fault f) {
            status[0]++;
            faultPlace = f.place;
            return f.kind;
        }
        faultPlace = -1;
        imaged = false;
        acts.clear();
        read.clear();
        now = new World();
        now.pot = told.pot;
        told.leaves.forEach(l -> now.places.add(l.place));
        for (Judge j : told.judges) {
            now.thirsts.add(j.thirst);
            now.hands.add(j.hand);
            now.seats.add(now.seats.size());
        }
        return 0;
    }

    int count(int what) {
        exists(what, 15);
        int gap = 0;
        for (int from = 0; from < 12; from++) {
            int row = 0;
            while (row < 12 && now.at((from + row) % 12) == 0) {
                row++;
            }
            gap = Math.max(gap, row);
        }
        int[] answers = {told.leaves.size(), told.judges.size(), now.number, now.pot, now.latest, now.most(),
            now.where(), now.odd(), gap, acts.size(), read.size(), tape.length(), status[0], status[1], status[2]};
        return answers[what];
    }

    int leaf(int leaf, int what) {
        hasLeaf(leaf);
        exists(what, 2);
        return what == 0 ? now.places.get(leaf) : told.leaves.get(leaf).weight;
    }

    int judge(int judge, int what) {
        hasJudge(judge);
        exists(what, 6);
        Judge j = told.judges.get(judge);
        int party = 0;
        for (int o = 0; o < told.judges.size(); o++) {
            party += told.judges.get(o).wish == j.wish ? 1 << o : 0;
        }
        return new int[] {j.thirst, now.hands.get(judge), j.wish, now.seats.indexOf(judge), j.blows ? 1 : 0, party}[what];
    }

    int seat(int seat) {
        hasJudge(seat);
        return now.seats.get(seat);
    }

    int heap(int place) {
        exists(place, 12);
        int bits = 0;
        for (int l = 0; l < now.places.size(); l++) {
            bits += now.places.get(l) == place ? 1 << l : 0;
        }
        return bits;
    }

    int weight(int place) {
        exists(place, 12);
        int sum = 0;
        for (int l = 0; l < now.places.size(); l++) {
            sum += now.places.get(l) == place ? told.leaves.get(l).weight : 0;
        }
        return sum;
    }

    private void keep() {
        acts.add(now.copy());
        if (acts.size() > 40) {
            acts.remove(0);
        }
    }

    private int refused() {
        status[1]++;
        return -1;
    }

    int cases(int many) {
        if (many < 1 || many > 20 || now.number + many > 999) {
            return refused();
        }
        keep();
        for (int i = 0; i < many; i++) {
            now.hear();
        }
        return now.number;
    }

    int change(int judge, int other) {
        hasJudge(judge);
        hasJudge(other);
        if (judge == other) {
            refused();
            return 0;
        }
        keep();
        now.swap(judge, other);
        return 1;
    }

    int hand(int judge, int hand) {
        hasJudge(judge);
        if (hand < 0 || hand > 12) {
            return refused();
        }
        keep();
        return now.hands.set(judge, hand);
    }

    int pot(int level) {
        if (level < 0 || level > 99) {
            return refused();
        }
        keep();
        int former = now.pot;
        now.pot = level;
        return former;
    }

    int put(int leaf, int place) {
        hasLeaf(leaf);
        exists(place, 12);
        if (now.places.get(leaf) == place) {
            return refused();
        }
        keep();
        return now.places.set(leaf, place);
    }

    int undo() {
        if (acts.isEmpty()) {
            return -1;
        }
        now = acts.remove(acts.size() - 1);
        return acts.size();
    }

    /** The world behind 0, 1 .. n CASES. */
    private List<World> ahead(World from, int n) {
        List<World> all = new ArrayList<>();
        all.add(from.copy());
        for (int k = 1; k <= n; k++) {
            all.add(all.get(k - 1).copy().hear());
        }
        return all;
    }

    private List<Integer> verdicts(World from, int n) {
        List<Integer> all = new ArrayList<>();
        for (World w : ahead(from, n).subList(1, n + 1)) {
            all.add(w.latest);
        }
        return all;
    }

    int verdict(int k, int what) {
        exists(what, 2);
        within(k, 1, 60);
        World w = ahead(now, k).get(k);
        return what == 0 ? w.latest : w.level;
    }

    int lies(int leaf, int cases) {
        hasLeaf(leaf);
        within(cases, 0, 60);
        return ahead(now, cases).get(cases).places.get(leaf);
    }

    int often(int verdict, int cases) {
        exists(verdict, 5);
        within(cases, 0, 60);
        int times = 0;
        for (int v : verdicts(now, cases)) {
            times += v == verdict ? 1 : 0;
        }
        return times;
    }

    int first(int verdict) {
        exists(verdict, 5);
        int at = verdicts(now, 60).indexOf(verdict);
        return at < 0 ? -1 : at + 1;
    }

    int round() {
        List<World> all = ahead(now, 60);
        for (int k = 1; k <= 60; k++) {
            if (all.get(k).places.equals(now.places)) {
                return k;
            }
        }
        return -1;
    }

    private static int best(int[] of) {
        int best = -1;
        for (int i = of.length - 1; i >= 0; i--) {
            if (best < 0 || of[i] >= of[best]) {
                best = i;
            }
        }
        return best;
    }

    int pleased(int cases) {
        within(cases, 1, 60);
        int[] times = new int[told.judges.size()];
        for (int j = 0; j < times.length; j++) {
            times[j] = often(told.judges.get(j).wish, cases);
        }
        return best(times);
    }

    int thirstiest(int cases) {
        within(cases, 1, 60);
        int[] much = new int[told.judges.size()];
        for (World w : ahead(now, cases).subList(1, cases + 1)) {
            for (int j = 0; j < much.length; j++) {
                much[j] += w.drunk.get(j);
            }
        }
        return best(much);
    }

    int swept(int cases) {
        within(cases, 0, 60);
        TreeSet<Integer> places = new TreeSet<>();
        ahead(now, cases).forEach(w -> places.addAll(w.places));
        int bits = 0;
        for (int p : places) {
            bits += 1 << p;
        }
        return bits;
    }

    int drunk(int judge, int k) {
        hasJudge(judge);
        within(k, 1, 60);
        return ahead(now, k).get(k).drunk.get(judge);
    }

    int streak(int cases) {
        within(cases, 1, 60);
        List<Integer> all = verdicts(now, cases);
        int longest = 0;
        for (int from = 0; from < cases; from++) {
            int to = from;
            while (to < cases && all.get(to).equals(all.get(from))) {
                to++;
            }
            longest = Math.max(longest, to - from);
        }
        return longest;
    }

    int come(int cases) {
        within(cases, 0, 60);
        int bits = 0;
        for (int v : new TreeSet<>(verdicts(now, cases))) {
            bits += 1 << v;
        }
        return bits;
    }

    private void permute(List<Integer> begun, List<List<Integer>> all) {
        if (begun.size() == told.judges.size()) {
            all.add(new ArrayList<>(begun));
            return;
        }
        for (int j = 0; j < told.judges.size(); j++) {
            if (!begun.contains(j)) {
                begun.add(j);
                permute(begun, all);
                begun.remove(begun.size() - 1);
            }
        }
    }

    int orders(int verdict, int i) {
        exists(verdict, 5);
        if (i != -1) {
            hasJudge(i);
        }
        if (told.judges.size() > 6) {
            return -2;
        }
        List<List<Integer>> all = new ArrayList<>();
        permute(new ArrayList<>(), all);
        List<List<Integer>> good = new ArrayList<>();
        for (List<Integer> one : all) {
            World w = now.copy();
            w.seats = new ArrayList<>(one);
            if (w.hear().latest == verdict) {
                good.add(one);
            }
        }
        return i == -1 ? good.size() : good.isEmpty() ? -1 : good.get(0).get(i);
    }

    private int byTurning(int bits) {
        World w = now.copy();
        for (int j = 0; j < told.judges.size(); j++) {
            if ((bits & 1 << j) != 0) {
                w.turn(j);
            }
        }
        return w.hear().latest;
    }

    int decisive() {
        int bits = 0;
        for (int j = 0; j < told.judges.size(); j++) {
            bits += byTurning(1 << j) != byTurning(0) ? 1 << j : 0;
        }
        return bits;
    }

    int toTurn(int verdict) {
        exists(verdict, 5);
        for (int few = 0; few <= told.judges.size(); few++) {
            for (int bits = 0; bits < 1 << told.judges.size(); bits++) {
                if (Integer.bitCount(bits) == few && byTurning(bits) == verdict) {
                    return bits;
                }
            }
        }
        return -1;
    }

    int toDrink(int judge, int verdict) {
        hasJudge(judge);
        exists(verdict, 5);
        for (int t = 0; t <= 30; t++) {
            World w = now.copy();
            w.thirsts.set(judge, t);
            if (w.hear().latest == verdict) {
                return t;
            }
        }
        return -1;
    }

    int toPour(int verdict) {
        exists(verdict, 5);
        for (int p = 0; p <= 99; p++) {
            World w = now.copy();
            w.pot = p;
            if (w.hear().latest == verdict) {
                return p;
            }
        }
        return -1;
    }

    int toLay(int leaf, int verdict) {
        hasLeaf(leaf);
        exists(verdict, 5);
        for (int p = 0; p < 12; p++) {
            World w = now.copy();
            w.places.set(leaf, p);
            if (w.hear().latest == verdict) {
                return p;
            }
        }
        return -1;
    }

    int better(int judge) {
        hasJudge(judge);
        int wish = told.judges.get(judge).wish;
        for (int o = 0; o < told.judges.size() && now.copy().hear().latest != wish; o++) {
            if (o != judge && now.copy().swap(judge, o).hear().latest == wish) {
                return o;
            }
        }
        return -1;
    }

    int stir(int judge, int leaf, int level) {
        hasJudge(judge);
        hasLeaf(leaf);
        within(level, 0, 99);
        return stirred(now.places.get(leaf), now.hands.get(judge), level, told.leaves.get(leaf).weight);
    }

    int apart(int leaf, int other) {
        hasLeaf(leaf);
        hasLeaf(other);
        int there = Math.floorMod(now.places.get(leaf) - now.places.get(other), 12);
        return there > 6 ? 12 - there : there;
    }

    int read(int k, int verdict) {
        exists(verdict, 5);
        if (k < 1 || k > 20 || read.size() == 8) {
            status[2]++;
            return -1;
        }
        read.add(new int[] {k, verdict});
        return read.size();
    }

    void forget() {
        read.clear();
    }

    private boolean asRead(List<Integer> verdicts) {
        return read.stream().allMatch(r -> verdicts.get(r[0] - 1) == r[1]);
    }

    /** By 100 by who, and the HAND, what VERDICTS would come. */
    private Map<Integer, List<Integer>> allHanded() {
        Map<Integer, List<Integer>> all = new TreeMap<>();
        for (int j = 0; j < told.judges.size(); j++) {
            for (int h = 0; h <= 12; h++) {
                World w = now.copy();
                if (w.hands.set(j, h) != h) {
                    List<Integer> verdicts = verdicts(w, 20);
                    if (asRead(verdicts)) {
                        all.put(100 * j + h, verdicts);
                    }
                }
            }
        }
        return all;
    }

    int handed(int what) {
        exists(what, 3);
        if (what == 2) {
            return asRead(verdicts(now, 20)) ? 1 : 0;
        }
        Map<Integer, List<Integer>> all = allHanded();
        return what == 0 ? all.size() : all.isEmpty() ? -1 : all.keySet().iterator().next();
    }

    int look(int what) {
        exists(what, 2);
        int best = -1;
        int most = 0;
        Map<Integer, List<Integer>> all = allHanded();
        for (int k = 1; k <= 20; k++) {
            TreeSet<Integer> unlike = new TreeSet<>();
            for (List<Integer> verdicts : all.values()) {
                unlike.add(verdicts.get(k - 1));
            }
            if (unlike.size() > most) {
                best = k;
                most = unlike.size();
            }
        }
        return what == 0 ? best : most;
    }

    private int gain(int judge, boolean turned, int verdict) {
        return (told.judges.get(judge).wish == verdict ? 5 : 0) - (turned ? 1 : 0);
    }

    private int outcome(int judge, int other, int a, int b) {
        World w = now.copy();
        if (a == 1) {
            w.turn(judge);
        }
        if (b == 1) {
            w.turn(other);
        }
        return w.hear().latest;
    }

    int game(int judge, int other, int what) {
        hasJudge(judge);
        hasJudge(other);
        exists(what, 2);
        if (judge == other) {
            throw new IllegalArgumentException();
        }
        List<Integer> rest = new ArrayList<>();
        for (int a = 0; a < 2; a++) {
            for (int b = 0; b < 2; b++) {
                int mine = gain(judge, a == 1, outcome(judge, other, a, b));
                int mineElse = gain(judge, a == 0, outcome(judge, other, 1 - a, b));
                int its = gain(other, b == 1, outcome(judge, other, a, b));
                int itsElse = gain(other, b == 0, outcome(judge, other, a, 1 - b));
                if (mineElse <= mine && itsElse <= its) {
                    rest.add(10 * a + b);
                }
            }
        }
        return what == 0 ? rest.size() : rest.isEmpty() ? -1 : rest.get(0);
    }

    private int seed;

    private int draw(int n) {
        long next = (seed * 1103515245L + 12345L) & 0xffffffffL;
        seed = (int) next;
        return (int) (next / 65536 % 32768 % n);
    }

    int years(int seed, int n, int what) {
        exists(what, 3);
        within(n, 0, 60);
        this.seed = seed;
        World w = now.copy();
        int[] times = new int[5];
        int wishes = 0;
        for (int k = 0; k < n; k++) {
            int d = draw(6);
            if (d == 0 && !told.leaves.isEmpty()) {
                int leaf = draw(told.leaves.size());
                w.places.set(leaf, draw(12));
            }
            if (d == 1 && !told.judges.isEmpty()) {
                int judge = draw(told.judges.size());
                w.hands.set(judge, draw(13));
            }
            if (d == 2) {
                w.pot = draw(100);
            }
            w.hear();
            times[w.latest]++;
            for (Judge j : told.judges) {
                wishes += j.wish == w.latest ? 1 : 0;
            }
        }
        int most = Arrays.stream(times).max().getAsInt();
        return what == 0 ? most : what == 2 ? wishes : n == 0 ? -1 : best(times);
    }

    private static List<World> copies(List<World> all) {
        List<World> copies = new ArrayList<>();
        all.forEach(w -> copies.add(w.copy()));
        return copies;
    }

    void image() {
        imaged = true;
        imageNow = now.copy();
        imageActs = copies(acts);
        imageRead = new ArrayList<>(read);
        imageStatus = status.clone();
    }

    int restore() {
        if (!imaged) {
            return 0;
        }
        now = imageNow.copy();
        acts = copies(imageActs);
        read = new ArrayList<>(imageRead);
        status = imageStatus.clone();
        return 1;
    }
}
