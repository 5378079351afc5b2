import java.util.Random;

/** Texts for ModelTest: such as tell a court, and such as are spoilt at some place. */
final class RandomText {
    private static final String[] VALUES = {"level", "most", "where", "odd", "case", "thirst", "seat"};
    private static final String[] SNIPS = {"leaf", "judge", "pot", "drinks", "reads", "not", "and", "or", "level", "seat",
        "x", ";", "(", ")", "+", "-", "*", "/", "<", "=", "0", "7", "12", "99", "9999", "10000", "!", "\t", "\n", " ", "A",
        "\u0000", "\u00e9", "((((((", "not not not not not not ", "pot 5;", "reads 1;", "drinks 2;", "leaf 1 1;"};

    private RandomText() {
    }

    static String court(Random r) {
        StringBuilder s = new StringBuilder();
        int leaves = r.nextInt(9);
        int judges = r.nextInt(9);
        boolean[] once = {r.nextInt(3) > 0, r.nextInt(3) > 0, r.nextInt(3) > 0};
        for (int i = 0; i < leaves; i++) {
            s.append("leaf ").append(r.nextInt(12)).append(' ').append(1 + r.nextInt(9)).append(';');
        }
        if (once[0]) {
            s.append("pot ").append(r.nextInt(100)).append(blank(r)).append(';');
        }
        for (int i = 0; i < judges; i++) {
            s.append(r.nextInt(3) == 0 ? "barrister " : "judge ").append(r.nextInt(31)).append(' ');
            s.append(r.nextInt(13)).append(' ').append(r.nextInt(5)).append(';').append(blank(r));
        }
        if (once[1]) {
            s.append("drinks ").append(expr(r, 0, 7)).append(';');
        }
        if (once[2]) {
            s.append("reads ").append(expr(r, 0, 5)).append(blank(r)).append(';');
        }
        return s.length() <= 700 ? s.toString() : court(r);
    }

    private static String blank(Random r) {
        return r.nextInt(4) == 0 ? "\n " : "";
    }

    private static String expr(Random r, int within, int values) {
        StringBuilder s = new StringBuilder(test(r, within, values));
        while (r.nextInt(3) == 0) {
            s.append(r.nextBoolean() ? " or " : " and ").append(test(r, within, values));
        }
        return s.toString();
    }

    private static String test(Random r, int within, int values) {
        StringBuilder s = new StringBuilder();
        while (r.nextInt(5) == 0) {
            s.append("not ");
        }
        s.append(sum(r, within, values));
        if (r.nextInt(3) == 0) {
            s.append(r.nextBoolean() ? '<' : '=').append(sum(r, within, values));
        }
        return s.toString();
    }

    private static String sum(Random r, int within, int values) {
        StringBuilder s = new StringBuilder(part(r, within, values));
        while (r.nextInt(2) == 0) {
            s.append("+-*/".charAt(r.nextInt(4))).append(part(r, within, values));
        }
        return s.toString();
    }

    private static String part(Random r, int within, int values) {
        int of = r.nextInt(10);
        if (of < 3) {
            return "" + r.nextInt(r.nextBoolean() ? 12 : 10000);
        }
        if (of < 8 || within > 5) {
            return VALUES[r.nextInt(r.nextInt(20) == 0 ? 7 : values)];
        }
        return "(" + expr(r, within + 1, values) + ")";
    }

    static String spoilt(Random r, String text) {
        StringBuilder s = new StringBuilder(text);
        for (int i = 1 + r.nextInt(2); i > 0; i--) {
            int at = r.nextInt(s.length() + 1);
            switch (r.nextInt(4)) {
                case 0 -> s.setLength(at);
                case 1 -> s.delete(at, Math.min(s.length(), at + 1 + r.nextInt(3)));
                default -> s.insert(at, SNIPS[r.nextInt(SNIPS.length)]);
            }
        }
        return s.length() <= 700 ? s.toString() : s.substring(0, 700);
    }
}
