import java.util.Random;

/** Draws texts of both languages, most of them as they can be. */
final class RandomText {
    private final Random random;
    private final boolean law;
    private final int words;
    private final StringBuilder out = new StringBuilder();
    private int depth;

    RandomText(Random random, boolean law, int words) {
        this.random = random;
        this.law = law;
        this.words = words;
    }

    private int n(int m) {
        return random.nextInt(m);
    }

    private void put(String token) {
        boolean letters = token.matches("[a-z0-9]+");
        boolean touching = out.length() > 0 && Character.isLetterOrDigit(out.charAt(out.length() - 1));
        if (letters && touching && n(60) > 0 || n(3) == 0) {
            out.append(' ');
        }
        out.append(token);
    }

    String text() {
        int clauses = n(12) == 0 ? 1 + n(14) : 1 + n(4);
        for (int i = 0; i < clauses; i++) {
            if (i > 0) {
                put(";");
            }
            clause();
        }
        if (n(6) == 0) {
            spoil();
        }
        if (n(8) == 0) {
            out.append(" ".repeat(n(4)));
        }
        if (n(40) == 0) {
            return " ".repeat(n(5));
        }
        return out.length() > 400 ? out.substring(0, 400) : out.toString();
    }

    private void spoil() {
        int at = n(out.length());
        String[] bad = {"", "(", ")", "[", "]", ";", "if", "1001", "1000", "x", "A", "+", "and", "not", "=", "\u00e9", "\t", "times", " "};
        out.replace(at, Math.min(out.length(), at + n(3)), bad[n(bad.length)]);
    }

    private void clause() {
        if (law) {
            String kind = new String[] {"shakes", "shakes", "falls", "thaws", "bars"}[n(5)];
            put(kind);
            if (!kind.equals("bars")) {
                sum();
            }
            if (kind.equals("bars") ? n(9) > 0 : n(2) == 0) {
                put("if");
                test();
            }
            return;
        }
        if (n(4) == 0) {
            put("dawn");
        } else {
            put("say");
            small(Math.max(1, words), 0);
            put("at");
            small(4, 0);
            put("loud");
            small(3, 1);
        }
        if (n(3) == 0) {
            put("times");
            put("" + (n(30) == 0 ? n(23) : 1 + n(4)));
        }
        if (n(3) == 0) {
            put("if");
            test();
        }
    }

    /** A sum that tells mostly what can be. */
    private void small(int m, int more) {
        int k = n(12);
        if (k == 0) {
            sum();
        } else if (k < 3) {
            put("[");
            part();
            put("%");
            put("" + m);
            put("]");
            put("*");
            put("1");
            put("+");
            put("" + more);
        } else {
            put("" + (n(m) + more));
        }
    }

    private void test() {
        plain();
        while (n(4) == 0 && out.length() < 330) {
            put(n(2) == 0 ? "or" : "and");
            plain();
        }
    }

    private void plain() {
        while (n(6) == 0) {
            put("not");
        }
        if (n(5) == 0 && depth < 9) {
            depth++;
            put("(");
            test();
            put(")");
            depth--;
        } else {
            sum();
            put(new String[] {"<", ">", "="}[n(3)]);
            sum();
        }
    }

    private void sum() {
        part();
        while (n(3) == 0 && out.length() < 330) {
            put(new String[] {"+", "-", "*", "/", "%"}[n(5)]);
            part();
        }
    }

    private void part() {
        int k = n(10);
        if (k == 0 && depth < 9) {
            depth++;
            put("[");
            sum();
            put("]");
            depth--;
        } else if (k < 5) {
            put("" + (n(4) == 0 ? n(1001) : n(6)));
        } else if (law) {
            String[] names = {"word", "long", "r", "loud", "place", "far", "slope", "snow", "day", "mood"};
            put(names[n(names.length)]);
        } else {
            String[] names = {"day", "words", "done", "slid", "harm", "snow", "strain"};
            String name = names[n(names.length)];
            put(name);
            if (name.startsWith("s") && !name.equals("slid")) {
                put("" + n(6));
            }
        }
    }
}
