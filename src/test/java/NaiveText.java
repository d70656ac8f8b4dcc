import java.util.ArrayList;
import java.util.List;

/** Both languages of the document, read into trees. */
final class NaiveText {
    static final class Fault extends Exception {
        final int place;

        Fault(int place) {
            this.place = place;
        }
    }

    static final class Broken extends Exception {
    }

    interface Known {
        int of(String name, int slope);
    }

    interface Sum {
        long value(Known known) throws Broken;
    }

    interface Test {
        boolean so(Known known) throws Broken;
    }

    static final class Clause {
        String kind;
        List<Sum> sums = new ArrayList<>();
        int times = 1;
        Test test;
    }

    private final boolean law;
    private final List<String> tokens = new ArrayList<>();
    private final List<Integer> places = new ArrayList<>();
    private int here;
    private int parts;
    private int depth;

    NaiveText(List<Integer> tape, boolean law) {
        this.law = law;
        StringBuilder text = new StringBuilder();
        for (int b : tape) {
            text.append((char) b);
        }
        java.util.regex.Matcher m = java.util.regex.Pattern.compile("[a-z]+|[0-9]+|[^ ]", java.util.regex.Pattern.DOTALL).matcher(text);
        while (m.find()) {
            tokens.add(m.group());
            places.add(m.start());
        }
        tokens.add("");
        places.add(tape.size());
    }

    private String look() {
        return tokens.get(here);
    }

    private Fault fault() {
        return new Fault(places.get(here));
    }

    private boolean take(String token) {
        if (!look().equals(token)) {
            return false;
        }
        here++;
        return true;
    }

    private void need(String token) throws Fault {
        if (!take(token)) {
            throw fault();
        }
    }

    List<Clause> clauses() throws Fault {
        List<Clause> all = new ArrayList<>();
        do {
            if (all.size() == 12) {
                throw fault();
            }
            all.add(clause());
        } while (take(";"));
        if (!look().isEmpty()) {
            throw fault();
        }
        return all;
    }

    private Clause clause() throws Fault {
        Clause c = new Clause();
        c.kind = look();
        List<String> kinds = law ? List.of("shakes", "falls", "thaws", "bars") : List.of("say", "dawn");
        if (!kinds.contains(c.kind)) {
            throw fault();
        }
        here++;
        if (c.kind.equals("say")) {
            c.sums.add(sum());
            need("at");
            c.sums.add(sum());
            need("loud");
            c.sums.add(sum());
        } else if (law && !c.kind.equals("bars")) {
            c.sums.add(sum());
        }
        if (!law && take("times")) {
            c.times = number(1, 20);
        }
        if (take("if")) {
            c.test = test();
        }
        return c;
    }

    private int number(int least, int most) throws Fault {
        if (!look().matches("[0-9]+")) {
            throw fault();
        }
        java.math.BigInteger n = new java.math.BigInteger(look());
        if (n.bitLength() > 20 || n.intValue() < least || n.intValue() > most) {
            throw fault();
        }
        here++;
        return n.intValue();
    }

    private Test test() throws Fault {
        Test left = both();
        while (take("or")) {
            Test a = left;
            Test b = both();
            left = k -> a.so(k) || b.so(k);
        }
        return left;
    }

    private Test both() throws Fault {
        Test left = plain();
        while (take("and")) {
            Test a = left;
            Test b = plain();
            left = k -> a.so(k) && b.so(k);
        }
        return left;
    }

    private Test plain() throws Fault {
        if (take("not")) {
            Test a = plain();
            return k -> !a.so(k);
        }
        if (look().equals("(")) {
            open();
            Test a = test();
            need(")");
            depth--;
            return a;
        }
        Sum a = sum();
        String sign = look();
        if (!List.of("<", ">", "=").contains(sign)) {
            throw fault();
        }
        here++;
        Sum b = sum();
        return k -> {
            long x = a.value(k);
            long y = b.value(k);
            return sign.equals("<") ? x < y : sign.equals(">") ? x > y : x == y;
        };
    }

    private void open() throws Fault {
        if (depth == 8) {
            throw fault();
        }
        depth++;
        here++;
    }

    private Sum sum() throws Fault {
        Sum left = term();
        while (look().equals("+") || look().equals("-")) {
            left = joined(left, look().charAt(0), skip(), term());
        }
        return left;
    }

    private Sum term() throws Fault {
        Sum left = part();
        while (look().equals("*") || look().equals("/") || look().equals("%")) {
            left = joined(left, look().charAt(0), skip(), part());
        }
        return left;
    }

    private int skip() {
        return here++;
    }

    private static Sum joined(Sum a, char sign, int unused, Sum b) {
        return k -> {
            long x = a.value(k);
            long y = b.value(k);
            if (y == 0 && (sign == '/' || sign == '%')) {
                throw new Broken();
            }
            long z = sign == '+' ? x + y : sign == '-' ? x - y : sign == '*' ? x * y : sign == '/' ? x / y : x % y;
            if (Math.abs(z) > 1000000000L) {
                throw new Broken();
            }
            return z;
        };
    }

    private Sum part() throws Fault {
        if (look().equals("[")) {
            open();
            Sum a = sum();
            need("]");
            depth--;
            return a;
        }
        if (parts == 50) {
            throw fault();
        }
        parts++;
        if (look().matches("[0-9]+")) {
            int n = number(0, 1000);
            return k -> n;
        }
        String name = look();
        List<String> names = law
            ? List.of("word", "long", "r", "loud", "place", "far", "slope", "snow", "day", "mood")
            : List.of("day", "words", "done", "slid", "harm", "snow", "strain");
        if (!names.contains(name)) {
            throw fault();
        }
        here++;
        int slope = !law && (name.equals("snow") || name.equals("strain")) ? number(0, 5) : -1;
        return k -> k.of(name, slope);
    }
}
