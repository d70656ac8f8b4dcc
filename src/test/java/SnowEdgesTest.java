import java.util.Map;

/** The edges that "Terms" III names of SLIDES, DAWNS and shares, and those of WINTERS ("Terms" IV). */
public final class SnowEdgesTest {
    private static final Checks C = new Checks("SnowEdgesTest");
    private static final Edge E = new Edge(C);
    private static final int NONE = WordSlides.NONE;

    public static void main(String[] args) {
        aboveHold();
        withoutSnow();
        theLowestFirst();
        askedAheadOfAnySlide();
        whereItGoes();
        atMostBelow();
        strainIsNoughtThen();
        nothingSlidesByPut();
        refusedSay();
        theLastDay();
        snowOfADawn();
        askedAsSnowWasInTheNewDay();
        strainAtADawn();
        shareInLowestTerms();
        shareOfNobody();
        shareOfTheLatest();
        undoPutsAllBack();
        undoPutsPeoplesPartsBack();
        barredByDay();
        saidAsItIsCalled();
        barredAsItIsCalled();
        winterBounds();
        winterDraws();
        winterOfBarredWords();
        winterAtTheLastDay();
        winterWithoutWords();
        winterOfOneWord();
        winterByDayAndMood();
        winterSaysWhatIsDrawn();
        winterIsOnPaper();
        drawnOfTheLatest();
        C.finish();
    }

    /** SNOW and HOLD of slope 0, into the gorge, and a law by which WORD 0 shakes all by that. */
    private static WordSlides valley(int snow, int hold, String law) {
        WordSlides x = Valleys.withWords(1);
        Valleys.slope(x, 0, snow, hold, NONE, 1);
        x.force(Texts.law(x, law));
        return x;
    }

    private static void aboveHold() {
        int[][] cases = {{1, 1, 0, 0}, {1, 1, 1, 1}, {1, 2, 1, 0}, {100, 109, 9, 0}, {100, 108, 9, 1}, {9999, 9999, 0, 0},
            {9999, 9999, 1, 1}, {9000, 9999, 999, 0}, {9001, 9999, 999, 1}};
        for (int[] each : cases) {
            WordSlides x = valley(each[0], each[1], "shakes " + each[2]);
            String name = "19 " + each[0] + " and " + each[2] + " on " + each[1];
            C.due(name, x.say(0, 0, 0, 1), each[3]);
            C.due(name + ", SNOW", x.of(0, 0), each[3] == 1 ? 0 : each[0]);
            C.due(name + ", STRAIN", x.of(0, 8), each[3] == 1 ? 0 : each[2]);
            C.due(name + ", slid", x.of(0, 9), each[3]);
            C.due(name + ", DOWN", x.count(14), each[3] == 1 ? each[0] : 0);
        }
    }

    private static void withoutSnow() {
        WordSlides x = valley(0, 1, "shakes 999");
        C.due("19 no SNOW, no SLIDE", x.say(0, 0, 0, 1), 0);
        C.due("3 STRAIN", x.of(0, 8), 999);
        C.due("19 no SNOW, no SLIDE", x.say(0, 0, 0, 1), 0);
        C.due("3 STRAIN is not bound", x.of(0, 8), 1998);
        // Snow that comes onto it slides on at once.
        WordSlides y = valley(1, 1, "shakes 2;shakes 0 if slope = 0 and loud = 1");
        y.put(0, 2, 3);
        y.put(3, 1, 5);
        y.put(3, 3, 1);
        y.say(0, 0, 0, 1);
        y.say(0, 0, 0, 1);
        C.due("3 STRAIN of 3", y.of(3, 8), 4);
        C.due("19 both", y.say(0, 0, 0, 2), 2);
        C.due("39 DOWN", y.count(14), 1);
    }

    private static void theLowestFirst() {
        // Slope 1 is above its HOLD, too; were it first, it would slide, and have 100 then.
        WordSlides x = valley(100, 100, "shakes 1");
        x.put(0, 2, 1);
        Valleys.slope(x, 1, 50, 50, NONE, 1);
        C.due("19 two", x.say(0, 0, 0, 1), 2);
        C.due("3 SNOW of 1", x.of(1, 0), 0);
        C.due("3 1 slid once", x.of(1, 9), 1);
        C.due("39 DOWN", x.count(14), 150);
        // All six, one onto the next: each has more to carry than it holds.
        WordSlides y = valley(10, 10, "shakes 1");
        for (int slope = 0; slope < 6; slope++) {
            Valleys.slope(y, slope, 10, 10, slope < 5 ? slope + 1 : NONE, 0);
        }
        C.due("19 six", y.say(0, 0, 0, 1), 6);
        C.due("39 HARM", y.count(13), 60);
    }

    private static void askedAheadOfAnySlide() {
        WordSlides x = valley(100, 100, "shakes snow");
        x.put(0, 2, 1);
        Valleys.slope(x, 1, 30, 170, NONE, 1);
        // 30 by its SNOW as it was, so 130 and 30 on 170; had it been asked later, 130 and 130.
        C.due("19 one", x.say(0, 0, 0, 1), 1);
        C.due("3 STRAIN of 1", x.of(1, 8), 30);
        C.due("3 SNOW of 1", x.of(1, 0), 130);
    }

    private static void whereItGoes() {
        for (int gorge = 0; gorge < 2; gorge++) {
            WordSlides x = valley(70, 70, "shakes 1;shakes 0 if slope > 0");
            x.put(0, 3, gorge);
            x.image(0);
            x.say(0, 0, 0, 1);
            C.due("39 HARM", x.count(13), gorge == 0 ? 70 : 0);
            C.due("39 DOWN", x.count(14), gorge == 1 ? 70 : 0);
            x.back(0);
            x.put(0, 2, 5);
            x.say(0, 0, 0, 1);
            C.due("39 HARM, a SLOPE is BELOW", x.count(13), 0);
            C.due("39 DOWN, a SLOPE is BELOW", x.count(14), 0);
            C.due("3 SNOW there", x.of(5, 0), 70);
        }
    }

    private static void atMostBelow() {
        int[][] cases = {{1, 9998, 9999}, {1, 9999, 9999}, {2, 9998, 9999}, {9999, 9999, 9999}, {9999, 0, 9999}};
        for (int[] each : cases) {
            WordSlides x = valley(each[0], each[0], "shakes 1;shakes 0 if slope > 0");
            x.put(0, 2, 4);
            Valleys.slope(x, 4, each[1], 9999, NONE, 0);
            C.due("19 9,999 there at most", x.say(0, 0, 0, 1), 1);
            C.due("3 SNOW there", x.of(4, 0), each[2]);
            C.due("39 what is too much is gone", x.count(13) + x.count(14), 0);
        }
    }

    private static void strainIsNoughtThen() {
        WordSlides x = valley(100, 102, "shakes 2");
        x.say(0, 0, 0, 1);
        x.say(1, 0, 0, 1);
        C.due("3 STRAIN is 0 then", x.of(0, 8), 0);
        C.due("3 STRAIN of others stays", x.of(1, 8), 4);
        x.say(2, 0, 0, 1);
        C.due("3 STRAIN from 0 on", x.of(0, 8), 2);
        C.due("22 PERSON 0 of the LATEST SLIDE", x.share(0, 0, 1), 2);
        C.due("22 PERSON 2 not yet", x.share(0, 2, 0), 0);
    }

    private static void nothingSlidesByPut() {
        WordSlides x = valley(100, 100, "shakes 0");
        C.due("2 SNOW above HOLD", x.put(0, 0, 9999), 100);
        C.due("3 SNOW stays", x.of(0, 0), 9999);
        C.due("2 HOLD below SNOW", x.put(0, 1, 1), 100);
        C.due("3 SNOW stays", x.of(0, 0), 9999);
        C.due("3 slid", x.of(0, 9), 0);
        C.due("19 but by any WORD, even one that shakes by 0", x.say(0, 0, 0, 1), 1);
        C.due("39 DOWN", x.count(14), 9999);
    }

    private static void refusedSay() {
        E.refused("19 BARRED", -3, Valleys::busy, x -> x.say(0, 2, 0, 3));
        WordSlides x = Valleys.busy();
        C.due("19 not BARRED", x.say(0, 2, 0, 2) >= 0 ? 1 : 0, 1);
    }

    private static WordSlides onDay(int day) {
        WordSlides x = Valleys.busy();
        x.terms(0, day);
        return x;
    }

    private static void theLastDay() {
        E.refused("20 behind DAY 999", -3, () -> onDay(999), WordSlides::dawn);
        WordSlides x = onDay(998);
        C.due("20 the last", x.dawn(), 0);
        C.due("39 DAY", x.count(15), 999);
        C.due("20 no further", x.dawn(), -3);
        C.due("21 undone", x.undo(), 1);
        C.due("39 DAY", x.count(15), 998);
        C.due("20 the last again", x.dawn(), 0);
    }

    private static void snowOfADawn() {
        // SNOW, FALLS, THAWS, SNOW then.
        int[][] cases = {{0, 0, 0, 0}, {0, 99, 0, 99}, {5, 0, 5, 0}, {5, 0, 6, 0}, {5, 3, 9, 0}, {0, 99, 99, 0}, {9999, 1, 0, 9999},
            {9990, 9, 0, 9999}, {9990, 10, 0, 9999}, {9999, 99, 99, 9999}, {9990, 99, 95, 9994}, {9999, 0, 99, 9900}};
        for (int[] each : cases) {
            WordSlides x = valley(each[0], 9999, "falls " + each[1] + ";thaws " + each[2]);
            C.due("20 no SLIDE", x.dawn(), 0);
            C.due("20 " + each[0] + " and " + each[1] + " less " + each[2], x.of(0, 0), each[3]);
        }
        WordSlides y = new WordSlides();
        y.put(0, 0, 490);
        y.put(1, 0, 491);
        C.due("20 at HOLD, above it", y.dawn(), 1);
        C.due("3 SNOW at HOLD", y.of(0, 0), 500);
        C.due("3 SNOW above it", y.of(1, 0), 0);
        C.due("39 HARM", y.count(13), 501);
    }

    private static void askedAsSnowWasInTheNewDay() {
        WordSlides x = valley(40, 500, "falls snow + day;thaws snow - day;falls 0 if slope = 1;thaws 0 if slope = 1");
        x.terms(0, 7);
        C.due("18 this DAY", x.weather(0, 0), 47);
        C.due("18 this DAY", x.weather(0, 1), 33);
        x.dawn();
        // 40 + 48 - 32: THAWS is asked as SNOW was, not with what FALLS.
        C.due("20 the new DAY", x.of(0, 0), 56);
        WordSlides y = valley(10, 10, "falls snow;thaws 0;falls 1 if slope = 0");
        y.put(0, 2, 1);
        y.dawn();
        C.due("20 all asked ahead of the SLIDES", y.of(1, 0), 11);
    }

    private static void strainAtADawn() {
        WordSlides x = valley(100, 130, "shakes 25;falls 20");
        x.say(4, 0, 0, 1);
        C.due("3 STRAIN", x.of(0, 8), 25);
        C.due("20 STRAIN is 0 ahead of the SLIDES", x.dawn(), 0);
        C.due("3 STRAIN", x.of(0, 8), 0);
        C.due("3 SNOW", x.of(0, 0), 120);
        x.say(3, 0, 0, 1);
        C.due("22 PEOPLE's is 0, too", x.share(0, 4, 0), 0);
        C.due("22 all by the other", x.share(0, 3, 0), 1);
    }

    private static void shareInLowestTerms() {
        // 30 of PERSON 0, 20 of PERSON 5, 10 of PERSON 2.
        WordSlides x = valley(100, 159, "shakes 10");
        for (int person : new int[] {0, 5, 0, 2, 5, 0}) {
            x.say(person, 0, 0, 1);
        }
        int[] upper = {1, 0, 1, 0, 0, 1};
        int[] lower = {2, 1, 6, 1, 1, 3};
        for (int person = 0; person < 6; person++) {
            C.due("22 upper of " + person, x.share(0, person, 0), upper[person]);
            C.due("22 lower of " + person, x.share(0, person, 1), lower[person]);
        }
        WordSlides y = valley(100, 100, "shakes 999");
        y.say(5, 0, 0, 1);
        C.due("22 all of it", y.share(0, 5, 0), 1);
        C.due("22 all of it", y.share(0, 5, 1), 1);
        y.put(0, 0, 100);
        y.force(Texts.law(y, "shakes 1"));
        C.due("19 by STRAIN 1", y.say(4, 0, 0, 1), 1);
        C.due("22 all of 1", y.share(0, 4, 0), 1);
        C.due("22 all of 1", y.share(0, 4, 1), 1);
        C.due("22 nothing of 1", y.share(0, 5, 0), 0);
        WordSlides z = valley(9000, 9999, "shakes 999;shakes 1 if loud = 2");
        z.say(0, 0, 0, 1);
        z.say(1, 0, 0, 2);
        C.due("22 999 of 1,000", z.share(0, 0, 0), 999);
        C.due("22 999 of 1,000", z.share(0, 0, 1), 1000);
        C.due("22 1 of 1,000", z.share(0, 1, 0), 1);
        C.due("22 1 of 1,000", z.share(0, 1, 1), 1000);
    }

    private static void shareOfNobody() {
        WordSlides x = valley(100, 500, "shakes 0");
        E.none("22 it never slid", Valleys::busy, y -> y.share(0, 1, 0));
        E.none("22 it never slid", Valleys::busy, y -> y.share(0, 1, 1));
        x.put(0, 1, 99);
        C.due("19 slides", x.say(0, 0, 0, 1), 1);
        C.due("22 by nobody's STRAIN", x.share(0, 0, 0), NONE);
        C.due("22 by nobody's STRAIN", x.share(0, 0, 1), NONE);
        WordSlides y = Valleys.slid();
        C.due("22 by somebody's", y.share(0, 0, 1), 6);
        y.put(0, 0, 500);
        C.due("20 slides", y.dawn(), 1);
        C.due("22 at a DAWN by nobody's", y.share(0, 0, 0), NONE);
        C.due("22 at a DAWN by nobody's", y.share(0, 0, 1), NONE);
        C.due("21 undone", y.undo(), 1);
        C.due("22 of the one ahead of it", y.share(0, 0, 1), 6);
    }

    private static void shareOfTheLatest() {
        WordSlides x = valley(100, 100, "shakes 5");
        x.say(1, 0, 0, 1);
        C.due("22 the first", x.share(0, 1, 0), 1);
        x.put(0, 0, 98);
        x.say(2, 0, 0, 1);
        C.due("22 the LATEST alone", x.share(0, 1, 0), 0);
        C.due("22 the LATEST alone", x.share(0, 2, 0), 1);
        C.due("3 slid twice", x.of(0, 9), 2);
        C.due("21 undone", x.undo(), 0);
        C.due("22 the one ahead of it", x.share(0, 1, 0), 1);
        C.due("22 the one ahead of it", x.share(0, 2, 0), 0);
    }

    private static void undoPutsAllBack() {
        WordSlides x = Valleys.busy();
        x.put(0, 1, 100);
        Map<String, Integer> ahead = Look.at(x);
        C.due("19 slides", x.say(2, 0, 0, 1), 1);
        C.due("21 a WORD", x.undo(), 0);
        E.stays("21 all is as it was", ahead, Look.at(x));
        WordSlides y = Valleys.busy();
        y.put(0, 1, 100);
        ahead = Look.at(y);
        C.due("20 slides", y.dawn(), 1);
        C.due("21 a DAWN", y.undo(), 1);
        E.stays("21 all is as it was", ahead, Look.at(y));
        E.refused("21 there is none", -3, () -> onDay(1), WordSlides::undo);
    }

    private static void undoPutsPeoplesPartsBack() {
        WordSlides x = valley(100, 104, "shakes 2;shakes 3 if loud = 2");
        x.say(0, 0, 0, 1);
        x.say(1, 0, 0, 1);
        x.undo();
        x.say(2, 0, 0, 1);
        x.say(3, 0, 0, 2);
        C.due("22 PERSON 0", x.share(0, 0, 0), 2);
        C.due("22 what was undone", x.share(0, 1, 0), 0);
        C.due("22 PERSON 2", x.share(0, 2, 0), 2);
        C.due("22 PERSON 3", x.share(0, 3, 0), 3);
        C.due("22 of all", x.share(0, 3, 1), 7);
        // The SLIDE is undone, too: the parts of those ahead of it count again.
        x.undo();
        x.say(5, 0, 0, 1);
        C.due("22 PERSON 0", x.share(0, 0, 1), 3);
        C.due("22 what was undone", x.share(0, 3, 0), 0);
        C.due("22 PERSON 5", x.share(0, 5, 1), 3);
    }

    /** The DAY that it is, straight behind terms(), dawn(), undo(), back(). */
    private static void barredByDay() {
        WordSlides x = valley(100, 500, "bars if day = 5;shakes day;falls day");
        x.image(0);
        x.terms(0, 5);
        C.due("19 BARRED on DAY 5", x.say(0, 0, 0, 1), -3);
        x.terms(0, 4);
        C.due("19 not BARRED on DAY 4", x.say(0, 0, 0, 1), 0);
        C.due("3 STRAIN of DAY 4", x.of(0, 8), 4);
        x.dawn();
        C.due("19 BARRED on DAY 5", x.say(0, 0, 0, 1), -3);
        C.due("17 BARRED on DAY 5", x.asks(0, 0, 1, 0, 1), 1);
        x.undo();
        C.due("17 not BARRED on DAY 4", x.asks(0, 0, 1, 0, 1), 0);
        C.due("17 SHAKES on DAY 4", x.asks(0, 0, 1, 0, 0), 4);
        x.terms(0, 5);
        x.back(0);
        C.due("17 not BARRED on DAY 0", x.asks(0, 0, 1, 0, 1), 0);
        x.terms(0, 9);
        C.due("18 FALLS on DAY 9", x.weather(0, 0), 9);
    }

    /** WORD, PLACE and LOUD are told apart by say(), asks() and TALKS TOLD. */
    private static void saidAsItIsCalled() {
        WordSlides x = Valleys.withWords(4);
        x.force(Texts.law(x, "shakes word * 100 + place * 10 + loud"));
        x.image(0);
        for (int code = 0; code < 4 * 4 * 3; code++) {
            int word = code % 4;
            int place = code / 4 % 4;
            int loud = code / 16 + 1;
            int due = word * 100 + place * 10 + loud;
            C.due("17 " + due, x.asks(word, place, loud, 3, 0), due);
            C.due("19 " + due, x.say(0, word, place, loud), 0);
            C.due("3 STRAIN by say()", x.of(3, 8), due);
            x.back(0);
        }
        for (int[] each : new int[][] {{2, 3, 1}, {0, 1, 2}, {1, 0, 3}, {3, 2, 1}, {1, 2, 3}}) {
            String text = "say " + each[0] + " at " + each[1] + " loud " + each[2];
            C.due("13 " + text, Texts.told(x, text), 1);
            C.due("3 STRAIN by " + text, x.of(3, 8), each[0] * 100 + each[1] * 10 + each[2]);
            x.back(0);
        }
    }

    private static void barredAsItIsCalled() {
        WordSlides x = Valleys.withWords(4);
        x.force(Texts.law(x, "bars if word = 0 and place = 3 and loud = 2;bars if word = 3 and place = 1 and loud = 1"));
        for (int code = 0; code < 4 * 4 * 3; code++) {
            int word = code % 4;
            int place = code / 4 % 4;
            int loud = code / 16 + 1;
            int called = word * 100 + place * 10 + loud;
            boolean barred = called == 32 || called == 311;
            C.due("17 BARRED " + called, x.asks(word, place, loud, 0, 1), barred ? 1 : 0);
            C.due("19 BARRED " + called, x.say(0, word, place, loud), barred ? -3 : 0);
        }
        C.due("13 BARRED", Texts.told(x, "say 0 at 3 loud 2"), -3);
        C.due("13 BARRED", Texts.told(x, "say 3 at 1 loud 1"), -3);
        C.due("13 not BARRED", Texts.told(x, "say 0 at 2 loud 3;say 3 at 2 loud 1;say 3 at 1 loud 3;say 1 at 3 loud 2"), 4);
    }

    private static void winterBounds() {
        WordSlides x = new WordSlides();
        C.due("35 one DAY", x.winter(0, 1), 0);
        C.due("36 SNOW", x.drawn(0, 0), 10);
        C.due("35 a hundred", x.winter(1000000, 100), 3060);
        C.due("36 SNOW", x.drawn(5, 0), 490);
        C.due("36 slid", x.drawn(5, 1), 1);
    }

    /** All WORDS are BARRED but one at one PLACE, LOUD so: SNOW 5 comes down, if that is drawn. */
    private static int harm(int seed, int days, int word, int place, int loud) {
        WordSlides x = Valleys.withWords(5);
        x.force(Texts.law(x, "falls 0;shakes 999;bars if not (word = " + word + " and place = " + place + " and loud = " + loud + ")"));
        x.put(0, 0, 5);
        return x.winter(seed, days);
    }

    private static void winterDraws() {
        // By hand: from 0 on s is 12345, 628841, 621889; 953857, 113460, 158350.
        C.due("35 SEED 0", harm(0, 1, 0, 1, 2), 5);
        C.due("35 another WORD", harm(0, 1, 1, 1, 2), 0);
        C.due("35 another PLACE", harm(0, 1, 0, 2, 2), 0);
        C.due("35 another LOUD", harm(0, 1, 0, 1, 1), 0);
        C.due("35 the second DAY", harm(0, 1, 2, 0, 2), 0);
        C.due("35 the second DAY", harm(0, 2, 2, 0, 2), 5);
        // From 1,000,000 on s is 9036, 979026, 874786.
        C.due("35 SEED 1,000,000", harm(1000000, 1, 1, 2, 2), 5);
        C.due("35 SEED 1,000,000", harm(1000000, 1, 1, 2, 3), 0);
    }

    private static void winterOfBarredWords() {
        WordSlides x = Valleys.hanging();
        x.force(Texts.law(x, "bars;falls 0"));
        C.due("35 nothing is said", x.winter(3, 100), 0);
        for (int slope = 0; slope < 6; slope++) {
            C.due("36 SNOW", x.drawn(slope, 0), 100);
            C.due("36 slid", x.drawn(slope, 1), 0);
        }
        x.force(NONE);
        x.put(0, 1, 99);
        C.due("35 something is", x.winter(3, 1), 0);
        C.due("36 slid", x.drawn(0, 1), 1);
        C.due("36 SNOW that fell behind it", x.drawn(0, 0), 10);
    }

    private static void winterAtTheLastDay() {
        for (int days : new int[] {1, 2, 3, 100}) {
            WordSlides x = Valleys.withWords(5);
            x.force(Texts.law(x, "falls 1;shakes 0"));
            x.terms(0, 998);
            C.due("35 HARM", x.winter(0, days), 0);
            C.due("36 one DAWN can be", x.drawn(0, 0), 1);
            x.terms(0, 999);
            C.due("35 HARM", x.winter(0, days), 0);
            C.due("36 none can be", x.drawn(0, 0), 0);
        }
        // On DAY 999 it is still said, once.
        WordSlides y = Valleys.withWords(5);
        y.force(Texts.law(y, "falls 50;shakes 20;bars if not (word = 0 and place = 1 and loud = 2)"));
        y.put(0, 0, 5);
        y.put(0, 1, 24);
        y.terms(0, 999);
        C.due("35 said, then it ends", y.winter(0, 100), 5);
        C.due("36 SNOW", y.drawn(0, 0), 0);
        C.due("36 slid", y.drawn(0, 1), 1);
        y.put(0, 1, 25);
        C.due("35 said once alone", y.winter(0, 100), 0);
        C.due("36 SNOW", y.drawn(0, 0), 5);
    }

    private static void winterWithoutWords() {
        WordSlides x = new WordSlides();
        Valleys.slope(x, 2, 500, 500, NONE, 0);
        C.due("35 the first DAWN", x.winter(77, 1), 510);
        C.due("36 SNOW", x.drawn(2, 0), 0);
        C.due("36 slid", x.drawn(2, 1), 1);
        C.due("36 another slope", x.drawn(3, 0), 10);
        // Nothing is said, whatever a LAW tells of it.
        x.force(Texts.law(x, "shakes 999;falls 0"));
        C.due("35 no DRAWS", x.winter(77, 100), 0);
        C.due("36 SNOW", x.drawn(2, 0), 500);
    }

    private static void winterOfOneWord() {
        WordSlides x = Valleys.withWords(1);
        x.force(Texts.law(x, "falls 0;shakes 1"));
        x.put(0, 0, 100);
        x.put(0, 1, 100);
        C.due("35 one WORD is drawn each DAY", x.winter(0, 1), 100);
        C.due("36 slid", x.drawn(0, 1), 1);
        x.put(0, 1, 101);
        C.due("35 and its STRAIN is 0 at each DAWN", x.winter(0, 100), 0);
        C.due("36 SNOW", x.drawn(0, 0), 100);
        x.put(0, 1, 100);
        x.force(Texts.law(x, "falls 0;shakes 0;shakes 1 if word = 0"));
        for (int seed = 0; seed < 10; seed++) {
            C.due("35 it is always WORD 0", x.winter(seed, 1), 100);
        }
    }

    private static void winterByDayAndMood() {
        WordSlides x = Valleys.withWords(1);
        x.force(Texts.law(x, "falls day + mood;shakes 0;shakes 900 if day = 6;bars if day < 6"));
        x.terms(0, 4);
        x.terms(1, 2);
        // At the DAWNS of DAYS 5, 6 there fall 7 and 8; on DAY 6 it is said, and 15 and 900 are above 500.
        C.due("35 HARM", x.winter(0, 2), 0);
        C.due("36 SNOW", x.drawn(0, 0), 15);
        C.due("35 HARM of all six", x.winter(0, 3), 90);
        C.due("36 SNOW of DAY 7", x.drawn(0, 0), 9);
        C.due("39 the DAY stays", x.count(15), 4);
        C.due("35 from the same DAY again", x.winter(0, 2), 0);
        C.due("36 SNOW", x.drawn(5, 0), 15);
        // STRAIN that was there counts until the first DAWN.
        WordSlides y = valley(100, 106, "falls 0;shakes 4");
        y.put(0, 3, 0);
        y.say(0, 0, 0, 1);
        C.due("35 by STRAIN of 4 and of 4", y.winter(0, 1), 100);
        y.dawn();
        C.due("35 by STRAIN of 4", y.winter(0, 100), 0);
    }

    /** By hand, as in winterDraws(): WORD 0 at PLACE 1, LOUD 2 from SEED 0 on, WORD 1 at PLACE 2, LOUD 2 from the last on. */
    private static void winterSaysWhatIsDrawn() {
        int[][] cases = {{0, 12}, {1000000, 122}};
        for (int[] each : cases) {
            WordSlides x = Valleys.withWords(5);
            x.force(Texts.law(x, "falls 0;shakes word * 100 + place * 10 + loud"));
            x.put(0, 0, 5);
            x.put(0, 1, 5 + each[1]);
            C.due("35 at HOLD by " + each[1], x.winter(each[0], 1), 0);
            x.put(0, 1, 4 + each[1]);
            C.due("35 above HOLD by " + each[1], x.winter(each[0], 1), 5);
        }
    }

    private static void winterIsOnPaper() {
        WordSlides x = Valleys.busy();
        Map<String, Integer> ahead = Look.at(x);
        C.due("35 on paper", x.winter(5, 100) >= 0 ? 1 : 0, 1);
        E.stays("35 on paper", ahead, Look.at(x), "winter");
        // HARM and SLIDES ahead of it do not count.
        WordSlides y = new WordSlides();
        y.word(9, 0, 0);
        y.put(0, 0, 500);
        y.say(0, 0, 0, 1);
        C.due("39 HARM", y.count(13), 500);
        C.due("3 slid", y.of(0, 9), 1);
        C.due("35 HARM of it alone", y.winter(0, 1), 0);
        C.due("36 slid in it", y.drawn(0, 1), 0);
        C.due("39 HARM stays", y.count(13), 500);
    }

    private static void drawnOfTheLatest() {
        E.none("36 ahead of any", WordSlides::new, x -> x.drawn(0, 0));
        E.none("36 ahead of any", WordSlides::new, x -> x.drawn(5, 1));
        WordSlides x = new WordSlides();
        x.winter(-1, 1);
        C.due("36 a REFUSED one aside", x.drawn(0, 0), NONE);
        x.winter(0, 3);
        C.due("36 the latest", x.drawn(0, 0), 30);
        x.winter(0, 2);
        C.due("36 the latest", x.drawn(0, 0), 20);
        x.winter(0, 101);
        C.due("36 a REFUSED one aside", x.drawn(0, 0), 20);
        x.put(0, 0, 400);
        x.dawn();
        C.due("36 as it was then", x.drawn(0, 0), 20);
    }
}
