import java.util.Random;

/** Runs of drawn calls (of fixed seeds), each answer compared with that of Naive. */
public final class RandomRunsTest {
    /** An object is used for at most so many calls; a text takes up to 27 with all that is asked behind it. */
    private static final int MOST_CALLS = 512;
    private static final int CALLS_AT_ONCE = 30;
    private static int wrong;
    private final Random random;
    private final WordSlides x = new WordSlides();
    private final Naive y = new Naive();
    private final StringBuilder log = new StringBuilder();
    private final int most;
    private int made;

    private RandomRunsTest(long seed) {
        random = new Random(seed);
        most = random.nextBoolean() ? 4 : 16;
    }

    public static void main(String[] args) {
        int runs = args.length > 0 ? Integer.parseInt(args[0]) : 1500;
        int from = args.length > 1 ? Integer.parseInt(args[1]) : 0;
        for (int seed = from; seed < from + runs && wrong < 5; seed++) {
            new RandomRunsTest(seed).run(seed);
        }
        System.out.println(wrong == 0 ? runs + " drawn runs are as due" : wrong + " drawn runs are not as due");
        if (wrong != 0) {
            System.exit(1);
        }
    }

    private void run(int seed) {
        int calls = 60 + random.nextInt(300);
        prepare();
        for (int i = 0; i < calls && made < MOST_CALLS - CALLS_AT_ONCE; i++) {
            if (!call(random.nextInt(100)) || !same("status()", x.status(), y.status)) {
                wrong++;
                System.out.println("seed " + seed + ":\n" + log);
                return;
            }
        }
    }

    private boolean same(String call, int got, int due) {
        made++;
        log.append(call).append(" answered ").append(got);
        if (got != due) {
            log.append(", due is ").append(due);
        }
        log.append('\n');
        return got == due;
    }

    private int n(int m) {
        return random.nextInt(m);
    }

    /** Mostly 0 .. m - 1, seldom a number beside. */
    private int near(int m) {
        int k = n(40);
        return k == 0 ? -1 : k == 1 ? m : k == 2 ? -7 : k == 3 ? 2000000000 : n(m);
    }

    private void prepare() {
        for (int i = 0; i < 6; i++) {
            if (n(3) > 0) {
                int snow = n(200);
                same("put", x.put(i, 0, snow), y.put(i, 0, snow));
            }
            if (n(3) > 0) {
                int hold = 1 + n(300);
                same("put", x.put(i, 1, hold), y.put(i, 1, hold));
            }
            if (n(2) > 0) {
                same("put", x.put(i, 3, 1), y.put(i, 3, 1));
            }
            if (i < 5 && n(2) > 0) {
                int below = i + 1 + n(5 - i);
                same("put", x.put(i, 2, below), y.put(i, 2, below));
            }
        }
    }

    private boolean call(int k) {
        if (k < 8) {
            return putCall();
        }
        if (k < 40) {
            return callOfValley(k);
        }
        if (k < 70) {
            return callOnPaper(k);
        }
        return callOfTexts(k);
    }

    private boolean putCall() {
        int a = near(6);
        int what = near(8);
        int v;
        switch (what) {
            case 0: v = n(8) == 0 ? near(10001) : near(250); break;
            case 1: v = n(8) == 0 ? near(10001) : 1 + near(300); break;
            case 2: v = n(7) - 1; break;
            case 3: v = near(2); break;
            default: v = near(10); break;
        }
        return same("put(" + a + ", " + what + ", " + v + ")", x.put(a, what, v), y.put(a, what, v));
    }

    private boolean callOfValley(int k) {
        int a = near(6);
        int b = near(10);
        int w = near(Math.max(1, y.now.words.size()));
        int p = near(4);
        int l = 1 + near(3);
        switch (k) {
            case 8: case 9: case 10:
                return same("of(" + a + ", " + b + ")", x.of(a, b), y.of(a, b));
            case 11: case 12: case 13: case 14: {
                if (y.now.words.size() >= most) {
                    return same("count(0)", x.count(0), y.count(0));
                }
                int r = near(10);
                int m = n(3) == 0 ? near(8) : n(2);
                int lo = 1 + near(9);
                return same("word(" + lo + ", " + r + ", " + m + ")", x.word(lo, r, m), y.word(lo, r, m));
            }
            case 15:
                return same("at(" + w + ", " + b + ")", x.at(w, b), y.at(w, b));
            case 16: {
                int v = near(100);
                return same("often(" + w + ", " + v + ")", x.often(w, v), y.often(w, v));
            }
            case 17: {
                int what = n(6) == 0 ? near(2) : 1;
                int v = what == 0 ? (n(2) == 0 ? 999 - n(6) : near(1000)) : near(10);
                return same("terms(" + what + ", " + v + ")", x.terms(what, v), y.terms(what, v));
            }
            case 18: case 19: case 20: case 21: case 22: case 23: case 24:
                return same("say(" + a + ", " + w + ", " + p + ", " + l + ")", x.say(a, w, p, l), y.say(a, w, p, l));
            case 25: case 26:
                return same("dawn()", x.dawn(), y.dawn());
            case 27: case 28:
                return same("undo()", x.undo(), y.undo());
            case 29: case 30: {
                int s = near(6);
                int what = near(2);
                return same("share(" + s + ", " + a + ", " + what + ")", x.share(s, a, what), y.share(s, a, what));
            }
            case 31: case 32: {
                int what = near(2);
                return same("asks(" + w + ", " + p + ", " + l + ", " + a + ", " + what + ")",
                    x.asks(w, p, l, a, what), y.asks(w, p, l, a, what));
            }
            case 33: {
                int what = near(2);
                return same("weather(" + a + ", " + what + ")", x.weather(a, what), y.weather(a, what));
            }
            case 34: {
                int i = near(2);
                return same("image(" + i + ")", x.image(i), y.image(i));
            }
            case 35: {
                int i = near(2);
                return n(2) == 0 || same("back(" + i + ")", x.back(i), y.back(i));
            }
            default: {
                int what = near(17);
                return same("count(" + what + ")", x.count(what), y.count(what));
            }
        }
    }

    private boolean callOnPaper(int k) {
        int a = near(6);
        int p = near(4);
        int l = 1 + near(3);
        int w = near(Math.max(1, y.now.words.size()));
        switch (k) {
            case 40: case 41: case 42: {
                int m = n(3) == 0 ? near(8) : n(2);
                return same("mean(" + m + ")", x.mean(m), y.mean(m));
            }
            case 43:
                return same("hush()", x.hush(), y.hush());
            case 44: case 45: case 46: case 47: {
                int what = near(8);
                if (Math.pow(y.now.words.size(), y.now.saying.size()) > 4000) {
                    return same("hush()", x.hush(), y.hush());
                }
                return same("saying(" + p + ", " + l + ", " + what + ")", x.saying(p, l, what), y.saying(p, l, what));
            }
            case 48: case 49: case 50:
                return same("talk(" + w + ", " + p + ", " + l + ")", x.talk(w, p, l), y.talk(w, p, l));
            case 51:
                return n(2) == 0 || same("cancel()", x.cancel(), y.cancel());
            case 52: case 53: {
                int days = 1 + near(4);
                int i = near(7) - 1;
                return same("plan(" + days + ", " + i + ")", x.plan(days, i), y.plan(days, i));
            }
            case 54: case 55: case 56: {
                int i = near(4) - 1;
                return y.now.words.size() > 4
                    || same("bring(" + a + ", " + p + ", " + i + ")", x.bring(a, p, i), y.bring(a, p, i));
            }
            case 57: case 58: case 59: {
                int what = near(3);
                return same("threat(" + a + ", " + p + ", " + what + ")", x.threat(a, p, what), y.threat(a, p, what));
            }
            case 60: case 61: {
                int sum = n(5) == 0 ? near(10001) : 480 + n(10);
                int slid = near(2);
                return same("seen(" + a + ", " + sum + ", " + slid + ")", x.seen(a, sum, slid), y.seen(a, sum, slid));
            }
            case 62:
                return n(3) > 0 || same("forget()", x.forget(), y.forget());
            case 63: case 64: {
                int what = near(4);
                return same("holds(" + a + ", " + what + ")", x.holds(a, what), y.holds(a, what));
            }
            case 65: case 66:
                return same("signs()", x.signs(), y.signs());
            case 67: {
                int seed = near(1000001);
                int days = 1 + near(100);
                return same("winter(" + seed + ", " + days + ")", x.winter(seed, days), y.winter(seed, days));
            }
            default: {
                int what = near(2);
                return same("drawn(" + a + ", " + what + ")", x.drawn(a, what), y.drawn(a, what));
            }
        }
    }

    private boolean callOfTexts(int k) {
        if (k < 76) {
            int law = near(Math.max(1, y.now.laws.size()));
            return same("force(" + law + ")", x.force(law), y.force(law));
        }
        if (k < 77) {
            int v = near(60);
            return same("end(" + v + ")", x.end(v), y.end(v));
        }
        if (k < 79) {
            if (y.now.words.size() >= most || !feedBytes()) {
                return same("count(6)", x.count(6), y.count(6));
            }
            return same("row()", x.row(), y.row()) && same("murmur()", x.murmur(), y.murmur);
        }
        boolean law = k < 88;
        String text = new RandomText(random, law, y.now.words.size()).text();
        if (!feedText(text)) {
            return false;
        }
        boolean good = law ? same("law()", x.law(), y.law()) : same("told()", x.told(), y.told());
        return good && same("fault()", x.fault(), y.fault) && same("stopped()", x.stopped(), y.stopped)
            && same("count(6)", x.count(6), y.count(6));
    }

    private boolean feedBytes() {
        int[] v = new int[5];
        for (int i = 0; i < 5; i++) {
            for (int j = 0; j < 4; j++) {
                v[i] = v[i] << 8 | (n(20) == 0 ? n(256) : n(9));
            }
        }
        int to = n(21);
        return same("feed", x.feed(v[0], v[1], v[2], v[3], v[4]), y.feed(v)) && same("end", x.end(to), y.end(to));
    }

    private boolean feedText(String text) {
        log.append("text ").append(text).append('\n');
        boolean good = same("end(0)", x.end(0), y.end(0));
        for (int i = 0; good && i < text.length(); i += 20) {
            int[] v = new int[5];
            for (int j = 0; j < 20; j++) {
                v[j / 4] = v[j / 4] << 8 | (i + j < text.length() ? text.charAt(i + j) : ' ');
            }
            good = same("feed", x.feed(v[0], v[1], v[2], v[3], v[4]), y.feed(v));
        }
        int to = Math.min(400, text.length());
        return good && same("end", x.end(to), y.end(to));
    }
}
