/** The edges of what is found out on paper: sayings, plans, what is brought down, threats, HOLD as it was SEEN, SIGNS. */
public final class PaperEdgesTest {
    private static final Checks C = new Checks("PaperEdgesTest");
    private static final Edge E = new Edge(C);
    private static final int NONE = WordSlides.NONE;

    public static void main(String[] args) {
        anEmptySaying();
        aSayingAtHold();
        aSayingThatCannotBe();
        aSayingOfFive();
        theLeastLongTogether();
        aSayingOverHold();
        noTalks();
        plansOverDays();
        plansAtHold();
        plansUpToTheLastDay();
        plansThatSlideAtDawn();
        plansOfBarredTalks();
        plansInOrder();
        bringAboveHold();
        bringByOneTwoThree();
        bringWithoutHarm();
        bringOfNoSnow();
        bringOfBarredWords();
        bringOverHold();
        bringLeavesNothingWhereItSlid();
        bringByLowerWordsBehindASlide();
        bringOfAllSix();
        threatWithoutSnow();
        threatAtHold();
        threatOfWordsThatShake();
        threatOfBarredWords();
        threatWinning();
        threatAloneIsLookedAt();
        holdsOfNothingSeen();
        holdsOfOne();
        holdsOfNone();
        holdsAtTheEnds();
        theSumToTryNext();
        signsOfFew();
        signsOfMany();
        signsOfAllLengths();
        byTheDayThatItIs();
        fromAnotherPlace();
        bySnowAsItIs();
        ofSnowOne();
        strainWithoutSnow();
        byTheLastOfSixteenWords();
        notByWordsThatAreGone();
        nothingIsDone();
        C.finish();
    }

    /** WORDS 0, 1 of MEANING 0, by 4 and 8; WORD 2 of MEANING 1, by 5 (at PLACE 0, LOUD 1); slope 0 with SNOW 100. */
    private static WordSlides spoken(int room) {
        WordSlides x = new WordSlides();
        x.word(5, 0, 0);
        x.word(9, 0, 0);
        x.word(6, 0, 1);
        Valleys.slope(x, 0, 100, 100 + room, NONE, 1);
        return x;
    }

    private static WordSlides meaning(int room, int... meanings) {
        WordSlides x = spoken(room);
        for (int each : meanings) {
            x.mean(each);
        }
        return x;
    }

    private static void anEmptySaying() {
        WordSlides x = meaning(0);
        C.due("25 LONG of nothing", x.saying(0, 1, 0), 0);
        C.due("25 one row of nothing", x.saying(0, 1, 1), 1);
        C.due("25 no WORD in it", x.saying(0, 1, 2), NONE);
        WordSlides y = new WordSlides();
        C.due("25 without WORDS", y.saying(3, 3, 0), 0);
        C.due("25 without WORDS", y.saying(3, 3, 1), 1);
        // Nothing is said, so nothing slides.
        x.put(0, 0, 9999);
        C.due("25 above HOLD", x.saying(0, 1, 1), 1);
        C.due("25 a wrong PLACE is none, too", x.saying(4, 1, 1), NONE);
        C.due("25 a wrong LOUD is none, too", x.saying(0, 0, 1), NONE);
    }

    private static void aSayingAtHold() {
        C.due("25 at HOLD", meaning(4, 0).saying(0, 1, 0), 5);
        C.due("25 above HOLD", meaning(3, 0).saying(0, 1, 0), NONE);
        C.due("25 all together at HOLD", meaning(9, 0, 1).saying(0, 1, 0), 11);
        C.due("25 all together above HOLD", meaning(8, 0, 1).saying(0, 1, 0), NONE);
        C.due("25 rows above HOLD", meaning(8, 0, 1).saying(0, 1, 1), 0);
        C.due("25 STRAIN counts", strained(13).saying(0, 1, 1), 1);
        C.due("25 STRAIN counts", strained(12).saying(0, 1, 1), 0);
        WordSlides x = meaning(0, 0, 1);
        x.put(0, 0, 0);
        C.due("25 without SNOW", x.saying(0, 1, 0), 11);
    }

    private static WordSlides strained(int room) {
        WordSlides x = meaning(room, 0, 1);
        x.say(5, 0, 0, 1);
        return x;
    }

    private static void aSayingThatCannotBe() {
        WordSlides x = meaning(999, 0, 7);
        C.due("25 no WORD of that", x.saying(0, 1, 0), NONE);
        C.due("25 in 0 rows", x.saying(0, 1, 1), 0);
        C.due("25 its first WORD", x.saying(0, 1, 2), NONE);
        C.due("25 its last WORD", x.saying(0, 1, 3), NONE);
        WordSlides y = meaning(999, 0);
        y.force(Texts.law(y, "bars if word = 0;bars if word = 1 and loud = 2"));
        C.due("25 one is BARRED", y.saying(0, 1, 0), 9);
        C.due("25 one is BARRED", y.saying(0, 1, 2), 1);
        C.due("25 all are BARRED", y.saying(0, 2, 0), NONE);
        C.due("25 all are BARRED", y.saying(0, 2, 1), 0);
        C.due("25 and LOUD 3", y.saying(0, 3, 2), 1);
    }

    private static void aSayingOfFive() {
        WordSlides x = meaning(999, 0, 1, 0, 1, 0);
        C.due("25 LONG", x.saying(0, 1, 0), 27);
        C.due("25 in one row", x.saying(0, 1, 1), 1);
        int[] due = {0, 2, 0, 2, 0};
        for (int i = 0; i < 5; i++) {
            C.due("25 WORD " + i, x.saying(0, 1, 2 + i), due[i]);
        }
        C.due("25 no sixth", x.saying(0, 1, 7), NONE);
        C.due("25 below 0", x.saying(0, 1, -1), NONE);
    }

    private static void theLeastLongTogether() {
        // WORDS 3, 4 are of LONG 5, too: three for each MEANING 0.
        WordSlides x = spoken(999);
        x.word(5, 1, 0);
        x.word(5, 2, 0);
        x.mean(0);
        C.due("25 rows", x.saying(0, 1, 1), 3);
        C.due("25 the first", x.saying(0, 1, 2), 0);
        x.mean(0);
        C.due("25 rows", x.saying(0, 1, 1), 9);
        // WORD 0 shakes by 6, the others by 4; room for 10: not WORD 0 twice.
        x.force(Texts.law(x, "shakes 4;shakes 6 if word = 0"));
        x.put(0, 1, 110);
        C.due("25 rows", x.saying(0, 1, 1), 8);
        C.due("25 the first row", x.saying(0, 1, 2), 0);
        C.due("25 the first row", x.saying(0, 1, 3), 3);
        x.put(0, 1, 109);
        C.due("25 rows", x.saying(0, 1, 1), 4);
        C.due("25 the first row", x.saying(0, 1, 2), 3);
        C.due("25 the first row", x.saying(0, 1, 3), 3);
        x.put(0, 1, 107);
        C.due("25 none", x.saying(0, 1, 1), 0);
    }

    private static void aSayingOverHold() {
        WordSlides x = meaning(999, 0);
        x.force(Texts.law(x, "shakes 0"));
        x.put(0, 1, 100);
        C.due("25 at HOLD, shaken by 0", x.saying(0, 1, 1), 1);
        x.put(0, 1, 99);
        C.due("25 above it a WORD that shakes by 0 brings it down", x.saying(0, 1, 1), 0);
    }

    private static void noTalks() {
        WordSlides x = new WordSlides();
        for (int n = 1; n <= 4; n++) {
            C.due("28 one row of nothing", x.plan(n, NONE), 1);
            C.due("28 no TALK in it", x.plan(n, 0), NONE);
        }
        C.due("28 no DAYS", x.plan(0, NONE), NONE);
        C.due("28 too many DAYS", x.plan(5, NONE), NONE);
    }

    private static WordSlides talking(int room, int talks, String law) {
        WordSlides x = spoken(room);
        for (int i = 0; i < talks; i++) {
            x.talk(0, 0, 1);
        }
        x.force(Texts.law(x, law));
        return x;
    }

    private static void plansOverDays() {
        WordSlides x = talking(999, 6, "falls 0");
        int[] rows = {1, 64, 729, 4096};
        for (int n = 1; n <= 4; n++) {
            C.due("28 all rows of " + n, x.plan(n, NONE), rows[n - 1]);
            C.due("28 all now", x.plan(n, 0), 0);
            C.due("28 all now", x.plan(n, 5), 0);
            C.due("28 no seventh", x.plan(n, 6), NONE);
        }
    }

    private static void plansAtHold() {
        // Each TALK shakes by 4.
        C.due("28 two at HOLD", talking(8, 2, "falls 0").plan(1, NONE), 1);
        C.due("28 two above HOLD", talking(7, 2, "falls 0").plan(1, NONE), NONE);
        C.due("28 one a DAY", talking(7, 2, "falls 0").plan(2, NONE), 2);
        C.due("28 the first row", talking(7, 2, "falls 0").plan(2, 0), 0);
        C.due("28 the first row", talking(7, 2, "falls 0").plan(2, 1), 1);
        C.due("28 four, one a DAY", talking(4, 4, "falls 0").plan(4, NONE), 24);
        C.due("28 five, one a DAY", talking(4, 5, "falls 0").plan(4, NONE), NONE);
        C.due("28 not one", talking(3, 1, "falls 0").plan(4, NONE), NONE);
        C.due("28 SNOW that falls counts", talking(8, 1, "falls 4").plan(2, NONE), 2);
        C.due("28 SNOW that falls counts", talking(7, 1, "falls 4").plan(2, NONE), 1);
        C.due("28 SNOW that falls counts", talking(7, 1, "falls 4").plan(2, 0), 0);
    }

    private static void plansUpToTheLastDay() {
        for (int day = 995; day < 1000; day++) {
            WordSlides x = talking(999, 1, "falls 0");
            x.terms(0, day);
            for (int n = 1; n <= 4; n++) {
                C.due("28 " + n + " from DAY " + day, x.plan(n, NONE), day + n - 1 <= 999 ? n : NONE);
            }
        }
    }

    private static void plansThatSlideAtDawn() {
        C.due("28 at HOLD", talking(10, 0, "falls 10").plan(2, NONE), 1);
        C.due("28 above it", talking(9, 0, "falls 10").plan(2, NONE), NONE);
        C.due("28 the first is now", talking(9, 0, "falls 10").plan(1, NONE), 1);
        C.due("28 above it on the last DAY", talking(29, 0, "falls 10").plan(4, NONE), NONE);
        C.due("28 at HOLD on the last DAY", talking(30, 0, "falls 10").plan(4, NONE), 1);
        C.due("28 there is no DAWN behind it", talking(29, 0, "falls 10").plan(3, NONE), 1);
        // Above its HOLD now: a WORD brings it down, a DAWN, too, unless enough thaws.
        WordSlides x = talking(0, 1, "falls 0;thaws 9");
        x.put(0, 1, 95);
        C.due("28 not now", x.plan(1, NONE), NONE);
        C.due("28 tomorrow", x.plan(2, NONE), 1);
        C.due("28 tomorrow", x.plan(2, 0), 1);
        x.put(0, 1, 90);
        C.due("28 it slides tomorrow", x.plan(2, NONE), NONE);
    }

    private static void plansOfBarredTalks() {
        WordSlides x = talking(999, 2, "falls 0;bars if day = 6;bars if day = 8");
        x.terms(0, 6);
        C.due("28 BARRED now", x.plan(1, NONE), NONE);
        C.due("28 tomorrow", x.plan(2, NONE), 1);
        C.due("28 tomorrow", x.plan(2, 0), 1);
        C.due("28 not the DAY behind", x.plan(3, NONE), 1);
        C.due("28 but the next", x.plan(4, NONE), 4);
        C.due("28 the first row", x.plan(4, 1), 1);
    }

    private static void plansInOrder() {
        // Room for 9: WORD 1 (by 9) has to be alone on its DAY.
        WordSlides x = spoken(9);
        x.force(Texts.law(x, "falls 0;shakes 4;shakes 9 if word = 1"));
        x.talk(0, 0, 1);
        x.talk(1, 0, 1);
        x.talk(0, 0, 1);
        C.due("28 rows", x.plan(2, NONE), 2);
        int[] due = {0, 1, 0};
        for (int i = 0; i < 3; i++) {
            C.due("28 the first as a row of DAYS by TALKS", x.plan(2, i), due[i]);
        }
    }

    private static void bringAboveHold() {
        // By 4, 9, 14 of WORD 0, 8, 17, 26 of WORD 1, 5, 11, 17 of WORD 2.
        int[][] cases = {{-1, 0}, {0, 0}, {3, 0}, {4, 1}, {8, 1}, {9, 2}, {13, 2}, {14, 4}, {16, 4}, {17, 5}, {25, 5}};
        for (int[] each : cases) {
            C.due("29 one, room " + each[0], spoken(each[0]).bring(0, 0, NONE), 1);
            C.due("29 the first, room " + each[0], spoken(each[0]).bring(0, 0, 0), each[1]);
            C.due("29 no second, room " + each[0], spoken(each[0]).bring(0, 0, 1), NONE);
        }
    }

    private static void bringByOneTwoThree() {
        C.due("29 26 do", spoken(25).bring(0, 0, NONE), 1);
        C.due("29 26 do not", spoken(26).bring(0, 0, NONE), 2);
        // The first row: 4 first, as 4 and 26 are 30.
        C.due("29 the first", spoken(26).bring(0, 0, 0), 0);
        C.due("29 the second", spoken(26).bring(0, 0, 1), 4 + 1);
        C.due("29 no third", spoken(26).bring(0, 0, 2), NONE);
        C.due("29 52 do", spoken(51).bring(0, 0, NONE), 2);
        C.due("29 52 do", spoken(51).bring(0, 0, 0), 5);
        C.due("29 52 do not", spoken(52).bring(0, 0, NONE), 3);
        C.due("29 the first", spoken(52).bring(0, 0, 0), 0);
        C.due("29 the second", spoken(52).bring(0, 0, 1), 5);
        C.due("29 the third", spoken(52).bring(0, 0, 2), 5);
        C.due("29 no fourth", spoken(52).bring(0, 0, 3), NONE);
        C.due("29 78 do", spoken(77).bring(0, 0, NONE), 3);
        C.due("29 not by 3", spoken(78).bring(0, 0, NONE), NONE);
        C.due("29 not by 3", spoken(78).bring(0, 0, 0), NONE);
        C.due("29 below NONE", spoken(3).bring(0, 0, -2), NONE);
    }

    private static void bringWithoutHarm() {
        WordSlides x = spoken(3);
        C.due("29 into the gorge", x.bring(0, 0, NONE), 1);
        x.put(0, 3, 0);
        C.due("29 into the village", x.bring(0, 0, NONE), NONE);
        x.put(0, 2, 5);
        C.due("29 onto a SLOPE", x.bring(0, 0, NONE), 1);
        // 100 and what it is shaken by, 4, on 104, on 103.
        x.put(5, 1, 104);
        C.due("29 that holds", x.bring(0, 0, 0), 0);
        x.put(5, 1, 103);
        C.due("29 that does not, above the village", x.bring(0, 0, NONE), NONE);
        x.put(5, 3, 1);
        C.due("29 that does not, above the gorge", x.bring(0, 0, 0), 0);
        // A SLOPE beside that comes into the village by 4 and more: by no WORD.
        Valleys.slope(x, 3, 10, 13, NONE, 0);
        C.due("29 HARM beside", x.bring(0, 0, NONE), NONE);
        x.put(3, 1, 14);
        C.due("29 no HARM beside by 4", x.bring(0, 0, 0), 0);
        x.put(3, 4, 9);
        x.put(0, 1, 108);
        C.due("29 9 on 8, 1 on 4", x.bring(0, 0, 0), 1);
    }

    private static void bringOfNoSnow() {
        WordSlides x = spoken(3);
        C.due("29 no SNOW there", x.bring(1, 0, NONE), NONE);
        C.due("29 no WORDS", new WordSlides().bring(0, 0, NONE), NONE);
        WordSlides y = new WordSlides();
        Valleys.slope(y, 0, 100, 1, NONE, 1);
        C.due("29 no WORDS, though it is above HOLD", y.bring(0, 0, NONE), NONE);
        // SNOW that comes from above, and is carried on.
        x.put(0, 2, 2);
        Valleys.slope(x, 2, 0, 104, NONE, 1);
        C.due("29 it comes, and is held by 104", x.bring(2, 0, 0), 1);
        x.put(2, 1, 103);
        C.due("29 it comes, and slides on", x.bring(2, 0, 0), 0);
    }

    private static void bringOfBarredWords() {
        WordSlides x = spoken(3);
        x.force(Texts.law(x, "bars if word = 0;bars if word = 1 and loud < 3"));
        C.due("29 the first that is not BARRED", x.bring(0, 0, 0), 5);
        Texts.law(x, "bars");
        x.force(1);
        C.due("29 all are BARRED", x.bring(0, 0, NONE), NONE);
    }

    private static void bringOverHold() {
        WordSlides x = spoken(0);
        x.force(Texts.law(x, "shakes 0"));
        C.due("29 at HOLD, shaken by 0", x.bring(0, 0, NONE), NONE);
        x.put(0, 1, 99);
        C.due("29 above it any WORD does", x.bring(0, 0, NONE), 1);
        C.due("29 the first", x.bring(0, 0, 0), 0);
    }

    private static void bringLeavesNothingWhereItSlid() {
        // 50 come onto slope 2, which holds them; a second WORD finds no SNOW above it.
        WordSlides x = Valleys.withWords(2);
        x.force(Texts.law(x, "shakes 0;shakes 1 if slope = 0"));
        Valleys.slope(x, 0, 50, 1, 2, 0);
        Valleys.slope(x, 2, 0, 50, NONE, 1);
        C.due("29 SNOW is 0 then", x.bring(2, 0, NONE), NONE);
        x.put(2, 1, 49);
        C.due("29 49 are not enough to hold them", x.bring(2, 0, NONE), 1);
        // Slope 1 has to slide ahead of slope 0: both together come into the village.
        for (int hold = 49; hold <= 50; hold++) {
            WordSlides y = Valleys.withWords(2);
            y.force(Texts.law(y, "shakes 0;shakes 1 if word = 0 and slope = 0;shakes 20 if word = 1 and slope = 1"));
            Valleys.slope(y, 0, 50, 50, 1, 0);
            Valleys.slope(y, 1, hold, hold, 2, 0);
            Valleys.slope(y, 2, 0, 60, NONE, 0);
            C.due("29 STRAIN and SNOW are 0 then", y.bring(0, 0, NONE), hold == 50 ? 2 : NONE);
            C.due("29 slope 1 first", y.bring(0, 0, 0), hold == 50 ? 3 : NONE);
            C.due("29 slope 0 then", y.bring(0, 0, 1), hold == 50 ? 0 : NONE);
        }
    }

    private static void bringByLowerWordsBehindASlide() {
        // WORD 1 brings 60 onto slope 1; only then WORD 0 shakes that, and has to be said twice.
        WordSlides x = Valleys.withWords(2);
        x.force(Texts.law(x, "shakes 0;shakes 1 if word = 1 and slope = 0;shakes 1 if word = 0 and slope = 1 and snow > 50"));
        Valleys.slope(x, 0, 60, 60, 1, 0);
        Valleys.slope(x, 1, 0, 61, NONE, 1);
        C.due("29 three", x.bring(1, 0, NONE), 3);
        C.due("29 a SLIDE above it", x.bring(1, 0, 0), 3);
        C.due("29 a lower one", x.bring(1, 0, 1), 0);
        C.due("29 and once more", x.bring(1, 0, 2), 0);
        x.put(1, 1, 62);
        C.due("29 not by 3", x.bring(1, 0, NONE), NONE);
        x.put(1, 1, 60);
        C.due("29 two", x.bring(1, 0, NONE), 2);
        C.due("29 a lower one", x.bring(1, 0, 1), 0);
    }

    /** Each lies above the next one, all with SNOW at HOLD: any WORD that shakes them brings all down. */
    private static void bringOfAllSix() {
        WordSlides x = Valleys.withWords(2);
        for (int slope = 0; slope < 6; slope++) {
            Valleys.slope(x, slope, 10, 10, slope < 5 ? slope + 1 : NONE, 1);
        }
        // WORD 0 shakes by 0, 1, 2, as it is LONG 1 and FAR 1.
        for (int slope = 0; slope < 6; slope++) {
            C.due("29 SLOPE " + slope, x.bring(slope, 0, NONE), 1);
            C.due("29 SLOPE " + slope, x.bring(slope, 0, 0), 1);
        }
        x.put(5, 3, 0);
        for (int slope = 0; slope < 6; slope++) {
            C.due("29 HARM, SLOPE " + slope, x.bring(slope, 0, NONE), NONE);
        }
    }

    private static void threatWithoutSnow() {
        WordSlides x = Valleys.threatened();
        x.put(2, 0, 0);
        for (int what = 0; what < 3; what++) {
            C.due("30 no SNOW there", x.threat(2, 0, what), NONE);
        }
        x.put(2, 0, 1);
        C.due("30 SNOW 1", x.threat(2, 0, 0) >= 0 ? 1 : 0, 1);
    }

    private static void threatAtHold() {
        WordSlides x = Valleys.hanging();
        C.due("30 at HOLD: each WORD makes it SLIDE", x.threat(0, 0, 0), 0);
        C.due("30 by no WORD", x.threat(0, 0, 1), 0);
        C.due("30 none", x.threat(0, 0, 2), NONE);
        x.put(0, 1, 99);
        for (int what = 0; what < 3; what++) {
            C.due("30 it would SLIDE now", x.threat(0, 0, what), NONE);
        }
        WordSlides y = Valleys.threatened();
        y.say(0, 1, 0, 1);
        C.due("30 by STRAIN 8 on room for 9", y.threat(0, 0, 0), 0);
        WordSlides z = Valleys.threatened();
        z.put(1, 1, 999);
        z.say(0, 0, 0, 2);
        C.due("30 STRAIN 9 on room for 9", z.threat(0, 0, 1), 0);
    }

    private static void threatOfWordsThatShake() {
        WordSlides x = new WordSlides();
        Valleys.slope(x, 0, 10, 11, NONE, 0);
        C.due("30 no WORD", x.threat(0, 0, 0), 0);
        C.due("30 no WORD", x.threat(0, 0, 1), 0);
        C.due("30 no WORD", x.threat(0, 0, 2), NONE);
        x.word(1, 0, 0);
        C.due("30 one that shakes by 0", x.threat(0, 0, 0), 0);
        C.due("30 one that shakes by 0", x.threat(0, 0, 1), 0);
        x.word(2, 0, 0);
        C.due("30 one that shakes by 1", x.threat(0, 0, 0), 1);
        C.due("30 by one", x.threat(0, 0, 1), 1);
        C.due("30 that one", x.threat(0, 0, 2), 1);
        x.put(0, 7, 2);
        C.due("30 from a PLACE where it shakes by 0", x.threat(0, 3, 0), 0);
    }

    private static void threatOfBarredWords() {
        WordSlides x = Valleys.threatened();
        x.word(5, 0, 0);
        C.due("30 by 4, twice, or 8", x.threat(0, 0, 1), 1);
        C.due("30 by 8", x.threat(0, 0, 2), 1);
        x.force(Texts.law(x, "bars if word = 1;bars if loud > 1"));
        C.due("30 4 and 4, and the first makes it SLIDE", x.threat(0, 0, 0), 0);
        x.force(Texts.law(x, "bars"));
        C.due("30 all BARRED", x.threat(0, 0, 0), 0);
        C.due("30 all BARRED", x.threat(0, 0, 2), NONE);
    }

    private static void threatWinning() {
        // By 1, 2, 3: who leaves room for a multiple of 4 wins.
        for (int room = 0; room <= 24; room++) {
            WordSlides x = new WordSlides();
            for (int i = 4; i >= 2; i--) {
                x.word(i, 0, 0);
            }
            Valleys.slope(x, 5, 9000, 9000 + room, NONE, 0);
            boolean wins = room % 4 != 0;
            C.due("30 room " + room, x.threat(5, 0, 0), wins ? 1 : 0);
            C.due("30 by one WORD", x.threat(5, 0, 1), wins ? 1 : 0);
            // WORD 0 shakes by 3, WORD 1 by 2, WORD 2 by 1.
            C.due("30 that one", x.threat(5, 0, 2), wins ? 3 - room % 4 : NONE);
        }
        // By 999 alone, with room for 9,998: ten times; the eleventh makes it SLIDE.
        WordSlides y = Valleys.withWords(1);
        y.force(Texts.law(y, "shakes 999"));
        Valleys.slope(y, 0, 1, 9999, NONE, 0);
        C.due("30 ten WORDS, the first begins", y.threat(0, 0, 0), 0);
        y.put(0, 1, 9990);
        C.due("30 nine WORDS", y.threat(0, 0, 0), 1);
        y.put(0, 1, 9991);
        C.due("30 9,990 are ten, at HOLD", y.threat(0, 0, 0), 0);
    }

    private static void threatAloneIsLookedAt() {
        WordSlides x = Valleys.threatened();
        int wins = x.threat(0, 0, 0);
        x.put(1, 1, 1);
        x.put(2, 0, 9999);
        C.due("30 others may SLIDE", x.threat(0, 0, 0), wins);
        // As its SNOW is now: by 9, not by what other SNOW would tell.
        x.force(Texts.law(x, "shakes snow / 11"));
        C.due("30 9 on room for 9", x.threat(0, 0, 1), 2);
    }

    private static void holdsOfNothingSeen() {
        WordSlides x = new WordSlides();
        int[] due = {1, 9999, 9999, 5000};
        for (int slope = 0; slope < 6; slope++) {
            for (int what = 0; what < 4; what++) {
                C.due("33 nothing was SEEN", x.holds(slope, what), due[what]);
            }
        }
        x.seen(3, 700, 1);
        for (int what = 0; what < 4; what++) {
            C.due("33 of another SLOPE", x.holds(2, what), due[what]);
            C.due("33 of another SLOPE", x.holds(4, what), due[what]);
        }
        C.due("33 HOLD itself is another", x.of(3, 1), 500);
    }

    private static void due(WordSlides x, int slope, int least, int greatest, int many, int next) {
        C.due("33 the least", x.holds(slope, 0), least);
        C.due("33 the greatest", x.holds(slope, 1), greatest);
        C.due("33 how many", x.holds(slope, 2), many);
        C.due("33 to try next", x.holds(slope, 3), next);
    }

    private static WordSlides seen(int... rows) {
        WordSlides x = new WordSlides();
        for (int i = 0; i < rows.length; i += 2) {
            x.seen(0, rows[i], rows[i + 1]);
        }
        return x;
    }

    private static void holdsOfOne() {
        due(seen(50, 0, 51, 1), 0, 50, 50, 1, NONE);
        due(seen(2, 1), 0, 1, 1, 1, NONE);
        due(seen(9999, 0), 0, 9999, 9999, 1, NONE);
        due(seen(50, 0, 52, 1), 0, 50, 51, 2, 51);
    }

    private static void holdsOfNone() {
        due(seen(50, 0, 50, 1), 0, NONE, NONE, 0, NONE);
        due(seen(51, 0, 50, 1), 0, NONE, NONE, 0, NONE);
        due(seen(9999, 0, 1, 1), 0, NONE, NONE, 0, NONE);
        due(seen(1, 1), 0, NONE, NONE, 0, NONE);
    }

    private static void holdsAtTheEnds() {
        due(seen(1, 0), 0, 1, 9999, 9999, 5000);
        due(seen(9999, 1), 0, 1, 9998, 9998, 5000);
        due(seen(2, 0), 0, 2, 9999, 9998, 5001);
        due(seen(9998, 0), 0, 9998, 9999, 2, 9999);
        due(seen(3, 1), 0, 1, 2, 2, 2);
        // The narrowest of several.
        due(seen(10, 0, 40, 1, 20, 0, 30, 1, 15, 0, 35, 1), 0, 20, 29, 10, 25);
    }

    private static void theSumToTryNext() {
        // Of n from 100 on: below the SUM are some, the others not; the more of both are fewest at the half.
        for (int n = 2; n <= 9; n++) {
            int best = NONE;
            int fewest = n + 1;
            for (int sum = 100; sum <= 100 + n; sum++) {
                int more = Math.max(sum - 100, 100 + n - sum);
                if (more < fewest) {
                    fewest = more;
                    best = sum;
                }
            }
            C.due("33 of " + n, seen(100, 0, 100 + n, 1).holds(0, 3), best);
        }
    }

    private static WordSlides often(int... values) {
        WordSlides x = Valleys.withWords(values.length);
        for (int i = 0; i < values.length; i++) {
            x.often(i, values[i]);
        }
        return x;
    }

    private static void signsOfFew() {
        C.due("34 no WORDS", often().signs(), 0);
        C.due("34 none that is OFTEN said", often(0, 0, 0).signs(), 0);
        C.due("34 one has a sign, 1 at least", often(0, 7, 0).signs(), 7);
        C.due("34 one at most", often(99).signs(), 99);
        C.due("34 one at least", often(1).signs(), 1);
        C.due("34 two", often(99, 1).signs(), 100);
        C.due("34 three", often(1, 1, 1).signs(), 5);
        C.due("34 those that are not said aside", often(1, 0, 1, 0, 1).signs(), 5);
        WordSlides x = often(5, 6);
        x.often(0, 0);
        C.due("34 said no more", x.signs(), 6);
        x.often(1, 0);
        C.due("34 said no more", x.signs(), 0);
    }

    private static void signsOfMany() {
        // 16 alike: four signs each.
        int[] alike = new int[16];
        java.util.Arrays.fill(alike, 99);
        C.due("34 all 16", often(alike).signs(), 16 * 4 * 99);
        // 1 + 1 = 2, 2 + 2 = 4, 4 + 4 = 8, 8 + 8 = 16, 16 + 16 = 32, 32 + 32 = 64, 64 + 64 = 128.
        C.due("34 as long as can be", often(1, 1, 2, 4, 8, 16, 32, 64).signs(), 2 + 4 + 8 + 16 + 32 + 64 + 128);
        C.due("34 in any order", often(64, 1, 16, 4, 1, 8, 2, 32).signs(), 2 + 4 + 8 + 16 + 32 + 64 + 128);
        // 1 + 2 = 3, 3 + 3 = 6, 4 + 5 = 9, 6 + 9 = 15.
        C.due("34 five", often(5, 4, 3, 2, 1).signs(), 3 + 6 + 9 + 15);
    }

    /** No row is the beginning of another one just if lengths are so that 1/2 to the power of each are 1 at most together. */
    private static void signsOfAllLengths() {
        int[][] cases = {{1, 99}, {3, 3, 5}, {1, 2, 4, 8}, {7, 7, 7, 7}, {1, 1, 1, 1, 9}, {5, 9, 12, 13, 16}, {2, 2, 3, 3, 4, 4},
            {99, 98, 50, 49, 2, 1}};
        for (int[] each : cases) {
            C.due("34 of all lengths that can be", often(each).signs(), least(each, 0, 1 << each.length));
        }
    }

    /** The least sum from word i on, with so much left of 1 (as a number of 1 / 2 to the power of how many there are). */
    private static int least(int[] often, int i, int left) {
        if (i == often.length) {
            return 0;
        }
        int best = 1000000;
        for (int length = 1; length <= often.length; length++) {
            int part = 1 << often.length - length;
            if (part <= left) {
                best = Math.min(best, often[i] * length + least(often, i + 1, left - part));
            }
        }
        return best;
    }

    /** A law of the DAY, straight behind terms(). */
    private static void byTheDayThatItIs() {
        WordSlides x = spoken(5);
        x.mean(0);
        x.talk(0, 0, 1);
        x.force(Texts.law(x, "shakes day;bars if day = 3;falls 0"));
        int[] fits = {1, 1, 1, 0, 1, 1, 0};
        for (int day = 6; day >= 0; day--) {
            afterAnotherDay(x, day);
            C.due("25 DAY " + day, x.saying(0, 1, 1), fits[day]);
            afterAnotherDay(x, day);
            C.due("28 DAY " + day, x.plan(1, NONE), fits[day] == 1 ? 1 : NONE);
            afterAnotherDay(x, day);
            C.due("30 DAY " + day, x.threat(0, 0, 0), day == 1 || day == 4 || day == 5 ? 1 : 0);
        }
        int[] words = {NONE, NONE, 3, NONE, 2, 2, 1};
        for (int day = 6; day >= 0; day--) {
            afterAnotherDay(x, day);
            C.due("29 DAY " + day, x.bring(0, 0, NONE), words[day]);
        }
    }

    /** Another day has been asked of, so that nothing of it may be left. */
    private static void afterAnotherDay(WordSlides x, int day) {
        x.terms(0, day == 0 ? 6 : day - 1);
        x.weather(0, 0);
        x.terms(0, day);
    }

    private static void fromAnotherPlace() {
        for (int place = 0; place < 4; place++) {
            WordSlides x = spoken(4);
            for (int other = 0; other < 4; other++) {
                x.put(0, 4 + other, other == place ? 0 : 9);
            }
            x.mean(0);
            x.force(Texts.law(x, "bars if not place = " + place));
            // By 5, 9 of LONG from there, by 0 from elsewhere.
            C.due("29 PLACE " + place, x.bring(0, place, 0), 0);
            C.due("25 PLACE " + place, x.saying(place, 1, 1), 0);
            C.due("30 PLACE " + place, x.threat(0, place, 0), 0);
            x.put(0, 1, 105);
            C.due("25 PLACE " + place, x.saying(place, 1, 0), 5);
            C.due("30 PLACE " + place, x.threat(0, place, 2), 0);
            C.due("29 PLACE " + place, x.bring(0, place, 0), 1);
            C.due("29 another PLACE", x.bring(0, (place + 1) % 4, NONE), NONE);
        }
    }

    /** A law of SNOW: asked as it is now, on paper of later DAYS as it is then. */
    private static void bySnowAsItIs() {
        for (int room = 9; room <= 10; room++) {
            WordSlides x = talking(room, 1, "shakes snow / 10;falls 0");
            x.mean(1);
            boolean fits = room == 10;
            C.due("25 10 on room for " + room, x.saying(0, 1, 0), fits ? 6 : NONE);
            C.due("28 10 on room for " + room, x.plan(1, NONE), fits ? 1 : NONE);
            C.due("29 10 on room for " + room, x.bring(0, 0, NONE), fits ? 2 : 1);
            C.due("30 10 on room for " + room, x.threat(0, 0, 1), fits ? 3 : 0);
        }
        // Tomorrow there is SNOW of 120, which is shaken by 12.
        for (int room = 31; room <= 32; room++) {
            WordSlides x = talking(room, 1, "shakes snow / 10;falls 20");
            C.due("28 tomorrow 32 are needed of " + room, x.plan(2, NONE), room - 30);
            C.due("28 the first is now", x.plan(2, 0), 0);
        }
    }

    private static void ofSnowOne() {
        WordSlides x = spoken(0);
        Valleys.slope(x, 0, 1, 4, NONE, 1);
        C.due("29 SNOW 1, 4 on room for 3", x.bring(0, 0, 0), 0);
        x.put(0, 1, 5);
        C.due("29 SNOW 1, 5 on room for 4", x.bring(0, 0, 0), 1);
        C.due("30 SNOW 1", x.threat(0, 0, 1), 1);
        x.mean(0);
        C.due("25 SNOW 1", x.saying(0, 1, 1), 1);
        x.put(0, 1, 4);
        C.due("25 SNOW 1", x.saying(0, 1, 1), 0);
    }

    /** Without SNOW a STRAIN above HOLD is nothing. */
    private static void strainWithoutSnow() {
        WordSlides x = spoken(100);
        x.put(5, 1, 1);
        x.say(0, 1, 0, 3);
        C.due("3 STRAIN", x.of(5, 8), 26);
        x.mean(0);
        C.due("25 nothing SLIDES", x.saying(0, 1, 0), 5);
        x.talk(1, 0, 3);
        C.due("28 nothing SLIDES", x.plan(1, NONE), 1);
        C.due("29 nothing SLIDES", x.bring(5, 0, NONE), NONE);
        C.due("30 nothing SLIDES", x.threat(5, 0, 0), NONE);
        x.force(Texts.law(x, "falls 1;falls 2 if slope = 5"));
        C.due("28 SNOW 2 is above HOLD 1", x.plan(2, NONE), NONE);
    }

    /** All 16 WORDS there can be, and the 16th alone does. */
    private static void byTheLastOfSixteenWords() {
        WordSlides x = Valleys.withWords(16);
        Valleys.slope(x, 0, 100, 105, NONE, 1);
        x.force(Texts.law(x, "shakes 0;shakes 2 * loud if word = 15;falls 0"));
        // WORD 15 is of MEANING 7, as WORD 7, and of LONG 7; WORD 7 is of LONG 8.
        x.mean(7);
        C.due("25 the 16th", x.saying(0, 1, 2), 15);
        C.due("29 the 16th, LOUD 3", x.bring(0, 0, NONE), 1);
        C.due("29 the 16th, LOUD 3", x.bring(0, 0, 0), 47);
        C.due("30 2, 2, then it SLIDES", x.threat(0, 0, 0), 0);
        x.put(0, 1, 103);
        C.due("30 2, then it SLIDES", x.threat(0, 0, 1), 1);
        C.due("30 the 16th", x.threat(0, 0, 2), 15);
        x.put(0, 1, 118);
        C.due("29 the 16th thrice is not above 18", x.bring(0, 0, NONE), NONE);
        x.put(0, 1, 117);
        C.due("29 the 16th thrice", x.bring(0, 0, NONE), 3);
        C.due("29 the 16th thrice", x.bring(0, 0, 2), 47);
    }

    /** BACK to fewer WORDS, nothing of those behind them may be left. */
    private static void notByWordsThatAreGone() {
        for (int left = 0; left < 3; left++) {
            WordSlides x = Valleys.withWords(left);
            Valleys.slope(x, 0, 100, 105, NONE, 1);
            String law = "shakes 0;shakes 5 if word > " + (left - 1) + ";shakes 6 if word > " + (left - 1) + " and loud > 1";
            x.force(Texts.law(x, law.replace("> -1", "> 0 - 1")));
            x.image(0);
            for (int i = left; i < 16; i++) {
                x.word(1, 0, 0);
            }
            C.due("29 by a new one", x.bring(0, 0, 0), left * 3 + 1);
            C.due("30 by the new ones", x.threat(0, 0, 1), 16 - left);
            x.back(0);
            C.due("29 they are gone", x.bring(0, 0, NONE), NONE);
            C.due("30 they are gone", x.threat(0, 0, 0), 0);
            C.due("30 they are gone", x.threat(0, 0, 1), 0);
        }
    }

    /** On paper nothing of the valley changes. */
    private static void nothingIsDone() {
        WordSlides known = Valleys.busy();
        E.tells("25 on paper", known.saying(0, 1, 0), Valleys::busy, x -> x.saying(0, 1, 0));
        E.tells("28 on paper", known.plan(4, NONE), Valleys::busy, x -> x.plan(4, NONE));
        E.tells("29 on paper", 1, Valleys::hanging, x -> x.bring(5, 0, NONE));
        E.tells("30 on paper", 1, Valleys::threatened, x -> x.threat(5, 0, 0));
        E.tells("33 on paper", 300, Valleys::busy, x -> x.holds(0, 0));
        E.tells("34 on paper", 6, Valleys::busy, WordSlides::signs);
    }
}
