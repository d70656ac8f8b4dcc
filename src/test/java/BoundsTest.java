/** The bounds of every number that a call takes ("Terms" I): the last that is taken, the first that is not. */
public final class BoundsTest {
    private static final Checks C = new Checks("BoundsTest");
    private static final Edge E = new Edge(C);
    private static final int NONE = WordSlides.NONE;

    public static void main(String[] args) {
        putBounds();
        putEdgesAreKept();
        belowIsOfAHigherNumber();
        wordBounds();
        oftenAndTermsBounds();
        sayBounds();
        listBounds();
        winterAndImageBounds();
        whatIsToldOfSlopesAndWords();
        whatIsAsked();
        whatIsOnPaper();
        whatIsRead();
        noSuchWordLawImage();
        C.finish();
    }

    private static void putBounds() {
        E.bounds("2 slope", -1, 0, 5, Valleys::busy, (x, v) -> x.put(v, 0, 1));
        E.bounds("2 what", -1, 0, 7, Valleys::busy, (x, v) -> x.put(0, v, 1));
        E.bounds("2 SNOW", -1, 0, 9999, Valleys::busy, (x, v) -> x.put(0, 0, v));
        E.bounds("2 HOLD", -1, 1, 9999, Valleys::busy, (x, v) -> x.put(0, 1, v));
        E.bounds("2 GORGE", -1, 0, 1, Valleys::busy, (x, v) -> x.put(0, 3, v));
        for (int what = 4; what < 8; what++) {
            int far = what;
            E.bounds("2 FAR " + far, -1, 0, 9, Valleys::busy, (x, v) -> x.put(0, far, v));
        }
    }

    private static void putEdgesAreKept() {
        int[][] edges = {{0, 9999}, {1, 9999}, {NONE, 5}, {0, 1}, {0, 9}, {0, 9}, {0, 9}, {0, 9}};
        int[] first = {0, 500, NONE, 0, 1, 1, 1, 1};
        for (int what = 0; what < edges.length; what++) {
            WordSlides x = new WordSlides();
            C.due("2 what it was at first", x.put(4, what, edges[what][0]), first[what]);
            C.due("3 least", x.of(4, what), edges[what][0]);
            C.due("2 what it was", x.put(4, what, edges[what][1]), edges[what][0]);
            C.due("3 most", x.of(4, what), edges[what][1]);
            C.due("2 what it was", x.put(4, what, edges[what][0]), edges[what][1]);
            C.due("3 another slope", x.of(3, what), first[what]);
            C.due("3 another slope", x.of(5, what), first[what]);
        }
    }

    private static void belowIsOfAHigherNumber() {
        for (int slope = 0; slope < 6; slope++) {
            int of = slope;
            for (int below = NONE; below < 6; below++) {
                int to = below;
                if (to == NONE || to > of) {
                    WordSlides x = new WordSlides();
                    C.due("2 BELOW of " + of + " is " + to, x.put(of, 2, to), NONE);
                    C.due("2 BELOW is taken", x.status(), 0);
                    C.due("3 BELOW", x.of(of, 2), to);
                } else {
                    E.refused("2 BELOW of " + of + " is " + to, -1, Valleys::busy, x -> x.put(of, 2, to));
                }
            }
            for (int wrong : new int[] {6, -2, Integer.MIN_VALUE, Integer.MAX_VALUE}) {
                E.refused("2 BELOW of " + of + " is " + wrong, -1, Valleys::busy, x -> x.put(of, 2, wrong));
            }
        }
    }

    private static void wordBounds() {
        E.bounds("4 LONG", -1, 1, 9, Valleys::busy, (x, v) -> x.word(v, 0, 0));
        E.bounds("4 RS", -1, 0, 9, Valleys::busy, (x, v) -> x.word(1, v, 0));
        E.bounds("4 MEANING", -1, 0, 7, Valleys::busy, (x, v) -> x.word(1, 0, v));
        WordSlides x = new WordSlides();
        C.due("4 least", x.word(1, 0, 0), 0);
        C.due("4 most", x.word(9, 9, 7), 1);
        int[] least = {1, 0, 0, 0};
        int[] most = {9, 9, 7, 0};
        for (int what = 0; what < 4; what++) {
            C.due("5 least", x.at(0, what), least[what]);
            C.due("5 most", x.at(1, what), most[what]);
        }
    }

    private static void oftenAndTermsBounds() {
        E.bounds("6 OFTEN", -1, 0, 99, Valleys::busy, (x, v) -> x.often(0, v));
        E.bounds("7 what", -1, 0, 1, Valleys::busy, (x, v) -> x.terms(v, 0));
        E.bounds("7 DAY", -1, 0, 999, Valleys::busy, (x, v) -> x.terms(0, v));
        E.bounds("7 MOOD", -1, 0, 9, Valleys::busy, (x, v) -> x.terms(1, v));
        WordSlides x = Valleys.withWords(1);
        C.due("6 first", x.often(0, 99), 0);
        C.due("5 most", x.at(0, 3), 99);
        C.due("6 what it was", x.often(0, 0), 99);
        C.due("5 least", x.at(0, 3), 0);
        C.due("7 first DAY", x.terms(0, 999), 0);
        C.due("39 DAY", x.count(15), 999);
        C.due("7 what it was", x.terms(0, 0), 999);
        C.due("7 first MOOD", x.terms(1, 9), 0);
        C.due("39 MOOD", x.count(16), 9);
        C.due("7 what it was", x.terms(1, 0), 9);
    }

    private static void sayBounds() {
        E.bounds("19 PERSON", -1, 0, 5, Valleys::busy, (x, v) -> x.say(v, 0, 0, 1));
        E.bounds("19 PLACE", -1, 0, 3, Valleys::busy, (x, v) -> x.say(0, 0, v, 1));
        E.bounds("19 LOUD", -1, 1, 3, Valleys::busy, (x, v) -> x.say(0, 0, 0, v));
        E.bounds("19 WORD", -2, 0, 2, Valleys::busy, (x, v) -> x.say(0, v, 0, 1));
    }

    private static void listBounds() {
        E.bounds("23 MEANING", -1, 0, 7, Valleys::busy, (x, v) -> x.mean(v));
        E.bounds("26 PLACE", -1, 0, 3, Valleys::busy, (x, v) -> x.talk(0, v, 1));
        E.bounds("26 LOUD", -1, 1, 3, Valleys::busy, (x, v) -> x.talk(0, 0, v));
        E.bounds("26 WORD", -2, 0, 2, Valleys::busy, (x, v) -> x.talk(v, 0, 1));
        E.bounds("31 SLOPE", -1, 0, 5, Valleys::busy, (x, v) -> x.seen(v, 1, 0));
        E.bounds("31 SUM", -1, 1, 9999, Valleys::busy, (x, v) -> x.seen(0, v, 0));
        E.bounds("31 slid", -1, 0, 1, Valleys::busy, (x, v) -> x.seen(0, 1, v));
    }

    private static void winterAndImageBounds() {
        E.bounds("35 SEED", -1, 0, 1000000, Valleys::busy, (x, v) -> x.winter(v, 1));
        E.bounds("35 n", -1, 1, 100, Valleys::busy, (x, v) -> x.winter(1, v));
        E.bounds("37 k", -1, 0, 1, Valleys::busy, (x, v) -> x.image(v));
        E.bounds("38 k", -1, 0, 1, Valleys::bothImages, (x, v) -> x.back(v));
    }

    private static void whatIsToldOfSlopesAndWords() {
        E.tellsWithin("3 slope", 0, 5, Valleys::busy, (x, v) -> x.of(v, 0));
        E.tellsWithin("3 what", 0, 9, Valleys::busy, (x, v) -> x.of(0, v));
        E.tellsWithin("5 word", 0, 2, Valleys::busy, (x, v) -> x.at(v, 0));
        E.tellsWithin("5 what", 0, 3, Valleys::busy, (x, v) -> x.at(0, v));
        E.tellsWithin("22 slope", 0, 5, Valleys::slid, (x, v) -> x.share(v, 0, 0));
        E.tellsWithin("22 person", 0, 5, Valleys::slid, (x, v) -> x.share(0, v, 0));
        E.tellsWithin("22 what", 0, 1, Valleys::slid, (x, v) -> x.share(0, 0, v));
        E.tellsWithin("36 slope", 0, 5, Valleys::busy, (x, v) -> x.drawn(v, 0));
        E.tellsWithin("36 what", 0, 1, Valleys::busy, (x, v) -> x.drawn(0, v));
        E.tellsWithin("39 what", 0, 16, Valleys::busy, (x, v) -> x.count(v));
    }

    private static void whatIsAsked() {
        E.tellsWithin("17 word", 0, 2, Valleys::busy, (x, v) -> x.asks(v, 0, 1, 0, 0));
        E.tellsWithin("17 place", 0, 3, Valleys::busy, (x, v) -> x.asks(0, v, 1, 0, 0));
        E.tellsWithin("17 loud", 1, 3, Valleys::busy, (x, v) -> x.asks(0, 0, v, 0, 0));
        E.tellsWithin("17 slope", 0, 5, Valleys::busy, (x, v) -> x.asks(0, 0, 1, v, 0));
        E.tellsWithin("17 what", 0, 1, Valleys::busy, (x, v) -> x.asks(0, 0, 1, 0, v));
        E.tellsWithin("17 word, BARRED", 0, 2, Valleys::busy, (x, v) -> x.asks(v, 0, 1, 0, 1));
        E.tellsWithin("17 place, BARRED", 0, 3, Valleys::busy, (x, v) -> x.asks(0, v, 1, 0, 1));
        E.tellsWithin("17 loud, BARRED", 1, 3, Valleys::busy, (x, v) -> x.asks(0, 0, v, 0, 1));
        for (int slope : new int[] {-1, 0, 5, 6, Integer.MIN_VALUE, Integer.MAX_VALUE}) {
            E.tells("17 the SLOPE aside", 1, Valleys::busy, x -> x.asks(2, 0, 3, slope, 1));
            E.tells("17 the SLOPE aside", 0, Valleys::busy, x -> x.asks(2, 0, 2, slope, 1));
        }
        E.tellsWithin("18 slope", 0, 5, Valleys::busy, (x, v) -> x.weather(v, 0));
        E.tellsWithin("18 what", 0, 1, Valleys::busy, (x, v) -> x.weather(0, v));
    }

    private static void whatIsOnPaper() {
        E.tellsWithin("25 place", 0, 3, Valleys::busy, (x, v) -> x.saying(v, 1, 0));
        E.tellsWithin("25 loud", 1, 3, Valleys::busy, (x, v) -> x.saying(0, v, 0));
        E.tellsWithin("25 place, rows", 0, 3, Valleys::busy, (x, v) -> x.saying(v, 1, 1));
        E.tellsWithin("25 loud, rows", 1, 3, Valleys::busy, (x, v) -> x.saying(0, v, 1));
        E.tellsWithin("25 what, 2 MEANINGS", 0, 3, Valleys::busy, (x, v) -> x.saying(0, 1, v));
        E.tellsWithin("28 n", 1, 4, Valleys::busy, (x, v) -> x.plan(v, NONE));
        E.tellsWithin("28 i, 1 TALK", -1, 0, Valleys::busy, (x, v) -> x.plan(2, v));
        E.tellsWithin("29 slope", 0, 5, Valleys::hanging, (x, v) -> x.bring(v, 0, NONE));
        E.tellsWithin("29 place", 0, 3, Valleys::hanging, (x, v) -> x.bring(0, v, NONE));
        E.tellsWithin("29 i, 1 WORD", -1, 0, Valleys::hanging, (x, v) -> x.bring(0, 0, v));
        E.tellsWithin("30 slope", 0, 5, Valleys::threatened, (x, v) -> x.threat(v, 0, 0));
        E.tellsWithin("30 place", 0, 3, Valleys::threatened, (x, v) -> x.threat(0, v, 0));
        E.tellsWithin("30 what", 0, 2, Valleys::threatened, (x, v) -> x.threat(0, 0, v));
        E.tellsWithin("33 slope", 0, 5, Valleys::busy, (x, v) -> x.holds(v, 0));
        E.tellsWithin("33 what", 0, 3, Valleys::busy, (x, v) -> x.holds(0, v));
    }

    private static void whatIsRead() {
        // The TAPE has 7 bytes.
        for (int n : new int[] {-1, 8, Integer.MIN_VALUE, Integer.MAX_VALUE}) {
            E.none("9 end " + n, Valleys::busy, x -> x.end(n));
        }
        E.tells("9 all of it", 7, Valleys::busy, x -> x.end(7));
        WordSlides x = Valleys.busy();
        C.due("9 nothing of it", x.end(0), 0);
        C.due("39 bytes", x.count(6), 0);
    }

    /** A number of a WORD, a LAW that there is not is refused by -2, even where it never could be one. */
    private static void noSuchWordLawImage() {
        E.bounds("6 WORD", -2, 0, 2, Valleys::busy, (x, v) -> x.often(v, 1));
        E.bounds("6 WORD, all 16", -2, 0, 15, () -> Valleys.withWords(16), (x, v) -> x.often(v, 1));
        E.bounds("19 WORD, all 16", -2, 0, 15, () -> Valleys.withWords(16), (x, v) -> x.say(0, v, 0, 1));
        E.bounds("26 WORD, all 16", -2, 0, 15, () -> Valleys.withWords(16), (x, v) -> x.talk(v, 0, 1));
        E.tellsWithin("5 word, all 16", 0, 15, () -> Valleys.withWords(16), (x, v) -> x.at(v, 0));
        E.tellsWithin("17 word, all 16", 0, 15, () -> Valleys.withWords(16), (x, v) -> x.asks(v, 0, 1, 0, 0));
        E.bounds("16 LAW", -2, NONE, 0, Valleys::busy, (x, v) -> x.force(v));
        E.refused("6 no WORD at all", -2, WordSlides::new, x -> x.often(0, 1));
        E.refused("19 no WORD at all", -2, WordSlides::new, x -> x.say(0, 0, 0, 1));
        E.refused("26 no WORD at all", -2, WordSlides::new, x -> x.talk(0, 0, 1));
        E.refused("16 no LAW at all", -2, WordSlides::new, x -> x.force(0));
        E.none("5 no WORD at all", WordSlides::new, x -> x.at(0, 0));
        E.none("17 no WORD at all", WordSlides::new, x -> x.asks(0, 0, 1, 0, 1));
        E.refused("38 IMAGE 0 was not kept", -2, WordSlides::new, x -> x.back(0));
        E.refused("38 IMAGE 1 was not kept", -2, Valleys::busy, x -> x.back(1));
    }
}
