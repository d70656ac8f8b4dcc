import java.util.Random;

/** saying(), plan(), bring(), threat() in drawn valleys that are near to sliding, compared with Naive. */
public final class PaperTest {
    private static final String[] LAWS = {
        "",
        "shakes snow / 10",
        "shakes long * loud + snow % 7 if snow > 20;shakes 30 if snow = 0",
        "shakes r;bars if loud = 2",
        "bars if word = 1 or day % 2 = 1;falls 3;thaws 5",
        "shakes 999 if word = 0;shakes far - slope if word > 0;falls day",
        "shakes [long - 5] * loud;falls 0",
        "shakes 20 / [snow - 40];falls snow / 20;thaws 2 if slope > 2",
    };
    private static int wrong;
    private static int checked;

    public static void main(String[] args) {
        int runs = args.length > 0 ? Integer.parseInt(args[0]) : 1200;
        for (int seed = 0; seed < runs && wrong == 0; seed++) {
            valley(new Random(seed), seed);
            if (seed % 20 == 0) {
                manySnows(new Random(seed), seed);
            }
        }
        System.out.println(wrong == 0 ? checked + " answers on paper are as due" : wrong + " answers are not as due");
        if (wrong != 0) {
            System.exit(1);
        }
    }

    private static void valley(Random r, int seed) {
        WordSlides x = new WordSlides();
        Naive y = new Naive();
        int words = 1 + r.nextInt(seed % 4 == 0 ? 7 : 4);
        for (int i = 0; i < words; i++) {
            int lo = 1 + r.nextInt(9);
            int rs = r.nextInt(10);
            int m = r.nextInt(2);
            due(seed, "word", x.word(lo, rs, m), y.word(lo, rs, m));
        }
        slopes(r, seed, x, y);
        String law = LAWS[r.nextInt(LAWS.length)];
        if (!law.isEmpty()) {
            Texts.feed(x, law);
            Texts.feed(y, law);
            due(seed, "law", x.law(), y.law());
            due(seed, "force", x.force(0), y.force(0));
        }
        for (int i = r.nextInt(3); i > 0; i--) {
            int w = r.nextInt(words);
            due(seed, "say", x.say(1, w, 1, 1), y.say(1, w, 1, 1));
        }
        for (int i = 0; i < 6; i++) {
            int w = r.nextInt(words);
            int p = r.nextInt(4);
            int l = 1 + r.nextInt(3);
            if (i < 1 + seed % 6) {
                due(seed, "talk", x.talk(w, p, l), y.talk(w, p, l));
            }
            int m = r.nextInt(2);
            if (i < (words > 4 ? 3 : 1 + seed % 5)) {
                due(seed, "mean", x.mean(m), y.mean(m));
            }
        }
        ask(r, seed, x, y, words);
    }

    /** Each word brings down a slope of its own onto the last one, whose snow so takes many values. */
    private static void manySnows(Random r, int seed) {
        WordSlides x = new WordSlides();
        Naive y = new Naive();
        for (int i = 0; i < 5; i++) {
            due(seed, "word", x.word(1, 0, 0), y.word(1, 0, 0));
            put(seed, x, y, i, 0, 1 + r.nextInt(40));
            put(seed, x, y, i, 1, y.of(i, 0));
            put(seed, x, y, i, 2, 5);
        }
        put(seed, x, y, 5, 0, r.nextInt(30));
        put(seed, x, y, 5, 1, 60 + r.nextInt(80));
        put(seed, x, y, 5, 3, 1);
        String law = "shakes 0;shakes 1 if word = slope;shakes [snow * " + (1 + r.nextInt(9)) + " + word] % " + (5 + r.nextInt(20))
            + " if slope = 5";
        Texts.feed(x, law);
        Texts.feed(y, law);
        due(seed, "law", x.law(), y.law());
        due(seed, "force", x.force(0), y.force(0));
        for (int slope = 4; slope < 6; slope++) {
            for (int i = -1; i < 3; i++) {
                due(seed, "many bring " + slope + " " + i, x.bring(slope, 0, i), y.bring(slope, 0, i));
            }
        }
    }

    private static void slopes(Random r, int seed, WordSlides x, Naive y) {
        for (int i = 0; i < 6; i++) {
            int snow = r.nextInt(4) == 0 ? 0 : r.nextInt(120);
            put(seed, x, y, i, 0, snow);
            put(seed, x, y, i, 1, Math.max(1, snow + r.nextInt(80) - (r.nextInt(9) == 0 ? 20 : 0)));
            put(seed, x, y, i, 3, r.nextInt(5) == 0 ? 0 : 1);
            if (i < 5 && r.nextInt(2) == 0) {
                put(seed, x, y, i, 2, i + 1 + r.nextInt(5 - i));
            }
            for (int p = 0; p < 4; p++) {
                put(seed, x, y, i, 4 + p, r.nextInt(10));
            }
        }
    }

    private static void put(int seed, WordSlides x, Naive y, int slope, int what, int value) {
        due(seed, "put", x.put(slope, what, value), y.put(slope, what, value));
    }

    private static void ask(Random r, int seed, WordSlides x, Naive y, int words) {
        int p = r.nextInt(4);
        for (int slope = 0; slope < 6; slope++) {
            for (int what = 0; what < 3; what++) {
                due(seed, "threat " + slope + " " + what, x.threat(slope, p, what), y.threat(slope, p, what));
            }
            for (int i = -1; i < 4 && words <= 3; i++) {
                due(seed, "bring " + slope + " " + p + " " + i, x.bring(slope, p, i), y.bring(slope, p, i));
            }
        }
        for (int n = 1; n <= 4; n++) {
            for (int i = -1; i < 7; i++) {
                if (n < 4 || seed % 3 == 0) {
                    due(seed, "plan " + n + " " + i, x.plan(n, i), y.plan(n, i));
                }
            }
        }
        for (int loud = 1; loud <= 3; loud++) {
            for (int what = 0; what < 8; what++) {
                due(seed, "saying " + p + " " + loud + " " + what, x.saying(p, loud, what), y.saying(p, loud, what));
            }
        }
    }

    private static void due(int seed, String call, int got, int want) {
        checked++;
        if (got != want) {
            wrong++;
            System.out.println("seed " + seed + ": " + call + " answered " + got + ", due is " + want);
        }
    }
}
