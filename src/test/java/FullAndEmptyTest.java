import java.util.Map;

/** What is empty, what is full, how much is kept, and by which of several a call is refused. */
public final class FullAndEmptyTest {
    private static final Checks C = new Checks("FullAndEmptyTest");
    private static final Edge E = new Edge(C);
    private static final int NONE = WordSlides.NONE;

    public static void main(String[] args) {
        aNewObjectIsEmpty();
        sixteenWords();
        fiveMeanings();
        sixTalks();
        tenSeen();
        sixLaws();
        fourHundredBytes();
        highestByteFirst();
        rowOfAnEmptyTape();
        rowByThrees();
        rowWithoutRoom();
        murmurOfTheLatestRow();
        sixteenUndone();
        undoneBehindAPut();
        undoneBehindTerms();
        undoneBehindBack();
        undoneByTalksTold();
        undoAroundTheRing();
        theFirstInThatOrder();
        imagesKeepAllBut();
        imagesKeepWhatIsNotSeenAtOnce();
        imagesOfOtherWords();
        imagesStay();
        countsOfRefusals();
        statusAheadOfAny();
        statusIsOfTheLatest();
        C.finish();
    }

    private static void aNewObjectIsEmpty() {
        for (Map.Entry<String, Integer> each : Look.at(new WordSlides()).entrySet()) {
            C.due("1 " + each.getKey(), each.getValue(), atFirst(each.getKey()));
        }
        for (int what = 7; what < 12; what++) {
            C.due("1 nothing was refused", new WordSlides().count(what), 0);
        }
        E.tells("24 empty", 0, WordSlides::new, WordSlides::hush);
        E.tells("27 empty", 0, WordSlides::new, WordSlides::cancel);
        E.tells("32 empty", 0, WordSlides::new, WordSlides::forget);
        E.tells("34 without WORDS", 0, WordSlides::new, WordSlides::signs);
        E.refused("21 there is none", -3, WordSlides::new, WordSlides::undo);
    }

    private static int atFirst(String name) {
        if (name.startsWith("hold of")) {
            return 500;
        }
        if (name.startsWith("weather 0")) {
            return 10;
        }
        if (name.startsWith("holds 1")) {
            return 9999;
        }
        if (name.startsWith("below") || name.startsWith("winter") || name.equals("force") || name.equals("fault")
            || name.equals("stopped")) {
            return NONE;
        }
        // FAR, the least HOLD that can be, the one row of nothing that is said, the one plan without talks.
        boolean one = name.startsWith("far") || name.startsWith("holds 0") || name.equals("rows of saying") || name.equals("plan");
        return one ? 1 : 0;
    }

    private static void sixteenWords() {
        WordSlides x = Valleys.withWords(15);
        C.due("4 the 16th", x.word(9, 9, 7), 15);
        C.due("39 WORDS", x.count(0), 16);
        C.due("5 the 16th", x.at(15, 1), 9);
        E.refused("4 a 17th", -5, () -> Valleys.withWords(16), y -> y.word(1, 0, 0));
        E.refused("4 a 17th that can't be", -1, () -> Valleys.withWords(16), y -> y.word(0, 0, 0));
    }

    private static void fiveMeanings() {
        WordSlides x = new WordSlides();
        for (int i = 1; i <= 5; i++) {
            C.due("23 how many it has", x.mean(7), i);
        }
        E.refused("23 a sixth", -5, FullAndEmptyTest::full, y -> y.mean(0));
        E.refused("23 a sixth that can't be", -1, FullAndEmptyTest::full, y -> y.mean(8));
        C.due("24 had five", x.hush(), 5);
        C.due("24 empty then", x.hush(), 0);
        C.due("39 MEANINGS", x.count(1), 0);
        C.due("23 from the first again", x.mean(0), 1);
    }

    private static void sixTalks() {
        WordSlides x = Valleys.withWords(1);
        for (int i = 0; i < 6; i++) {
            C.due("26 its number", x.talk(0, 3, 3), i);
        }
        E.refused("26 a seventh", -5, FullAndEmptyTest::full, y -> y.talk(0, 0, 1));
        E.refused("26 a seventh of no WORD", -2, FullAndEmptyTest::full, y -> y.talk(3, 0, 1));
        E.refused("26 a seventh that can't be", -1, FullAndEmptyTest::full, y -> y.talk(3, 0, 0));
        C.due("28 all six", x.plan(1, 5), 0);
        C.due("27 there were six", x.cancel(), 6);
        C.due("27 none then", x.cancel(), 0);
        C.due("28 none then", x.plan(1, 0), NONE);
        C.due("26 from the first again", x.talk(0, 0, 1), 0);
    }

    private static void tenSeen() {
        WordSlides x = new WordSlides();
        for (int i = 1; i <= 10; i++) {
            C.due("31 how many there are", x.seen(5, i, 0), i);
        }
        C.due("33 the tenth counts", x.holds(5, 0), 10);
        E.refused("31 an eleventh", -5, FullAndEmptyTest::full, y -> y.seen(0, 1, 0));
        E.refused("31 an eleventh that can't be", -1, FullAndEmptyTest::full, y -> y.seen(0, 0, 0));
        C.due("32 there were ten", x.forget(), 10);
        C.due("32 none then", x.forget(), 0);
        C.due("33 nothing was SEEN", x.holds(5, 0), 1);
        C.due("31 from the first again", x.seen(0, 1, 0), 1);
    }

    /** busy(), with all lists full: 5 MEANINGS, 6 TALKS, 10 SEEN, 6 LAWS. */
    private static WordSlides full() {
        WordSlides x = Valleys.busy();
        x.end(0);
        // busy() has 2 MEANINGS, 1 TALK, 2 SEEN, 1 LAW.
        for (int i = 2; i < 5; i++) {
            x.mean(0);
        }
        for (int i = 1; i < 6; i++) {
            x.talk(0, 0, 1);
        }
        for (int i = 2; i < 10; i++) {
            x.seen(1, 400, 0);
        }
        for (int i = 1; i < 6; i++) {
            Texts.law(x, "falls 1");
        }
        Texts.told(x, "nonsense");
        return x;
    }

    private static WordSlides fullWithTape(String text) {
        WordSlides x = full();
        Texts.feed(x, text);
        return x;
    }

    private static void sixLaws() {
        WordSlides x = new WordSlides();
        for (int i = 0; i < 6; i++) {
            C.due("12 its number", Texts.law(x, "falls " + i), i);
        }
        C.due("16 the sixth", x.force(5), NONE);
        C.due("18 the sixth", x.weather(0, 0), 5);
        // The FAULT of the latest text that was read, 0, stays: a seventh is not read, though its TAPE is empty then.
        E.refused("12 a seventh", -5, () -> fullWithTape("falls 1"), WordSlides::law, "tape");
        E.refused("12 a seventh with a FAULT", -5, () -> fullWithTape("falls 1 1"), WordSlides::law, "tape");
        E.refused("12 a seventh of blanks", -5, () -> fullWithTape("   "), WordSlides::law, "tape");
        E.refused("12 a seventh of nothing", -5, FullAndEmptyTest::full, WordSlides::law);
        WordSlides y = fullWithTape("falls 1");
        y.law();
        C.due("12 the TAPE is empty then, too", y.count(6), 0);
        C.due("14 of the latest that was read", y.fault(), 0);
        C.due("39 LAWS", y.count(4), 6);
    }

    private static void fourHundredBytes() {
        WordSlides x = new WordSlides();
        for (int i = 1; i <= 20; i++) {
            C.due("8 how many it has", x.feed(-1, 0, -1, 0, -1), 20 * i);
        }
        E.none("8 more than 400", FullAndEmptyTest::fullTape, y -> y.feed(0, 0, 0, 0, 0));
        E.none("9 more than it has", FullAndEmptyTest::fullTape, y -> y.end(401));
        E.tells("9 all it has", 400, FullAndEmptyTest::fullTape, y -> y.end(400));
        C.due("9 381", x.end(381), 381);
        C.due("8 401 would be more", x.feed(0, 0, 0, 0, 0), NONE);
        C.due("39 bytes stay", x.count(6), 381);
        C.due("9 cut off for good", x.end(382), NONE);
        C.due("9 380", x.end(380), 380);
        C.due("8 400 are not more", x.feed(0, 0, 0, 0, 0), 400);
        C.due("9 none", x.end(0), 0);
        C.due("9 none of none", x.end(0), 0);
        C.due("9 one of none", x.end(1), NONE);
        C.due("8 none of them is refused", x.count(7), 0);
        C.due("40 nor told by status", x.status(), 0);
    }

    private static WordSlides fullTape() {
        WordSlides x = Valleys.busy();
        x.end(0);
        for (int i = 0; i < 20; i++) {
            x.feed(i, i, i, i, i);
        }
        return x;
    }

    private static void highestByteFirst() {
        WordSlides x = new WordSlides();
        // 255 comes of a number below 0, 127 of the greatest: no WORDS, but bytes.
        x.feed(0xFF010203, 0x7FFFFFFF, 0x80000000, 0x01020304, 0x05060708);
        C.due("39 bytes", x.count(6), 20);
        // (255 1 2) (3 127 255) (255 255 128) (0 0 0) (1 2 3) (4 5 6) (7 8)
        C.due("10 WORDS", x.row(), 2);
        C.due("11 MURMUR", x.murmur(), 5);
        int[] due = {1, 2, 3, 4, 5, 6};
        for (int i = 0; i < 6; i++) {
            C.due("8 byte by byte", x.at(i / 3, i % 3), due[i]);
        }
    }

    private static WordSlides withoutTape() {
        WordSlides x = Valleys.busy();
        x.end(0);
        return x;
    }

    private static void rowOfAnEmptyTape() {
        E.refused("10 the TAPE is empty", -6, FullAndEmptyTest::withoutTape, WordSlides::row);
        WordSlides x = Valleys.busy();
        C.due("10 the TAPE is not", x.row() >= 0 ? 1 : 0, 1);
        C.due("10 it is empty then", x.count(6), 0);
        C.due("10 and refused", x.row(), -6);
    }

    private static void row(WordSlides x, int... bytes) {
        StringBuilder text = new StringBuilder();
        for (int each : bytes) {
            text.append((char) each);
        }
        Texts.feed(x, text.toString());
    }

    private static void rowByThrees() {
        int[][] good = {{1, 0, 0}, {9, 9, 7}};
        int[][] wrong = {{0, 0, 0}, {10, 0, 0}, {1, 10, 0}, {1, 0, 8}, {255, 0, 0}, {1, 255, 0}, {1, 0, 255}, {1}, {1, 0}};
        for (int[] each : good) {
            WordSlides x = new WordSlides();
            row(x, each);
            C.due("10 a WORD", x.row(), 1);
            C.due("11 no MURMUR", x.murmur(), 0);
            for (int what = 0; what < 3; what++) {
                C.due("5 as on the TAPE", x.at(0, what), each[what]);
            }
            C.due("5 not said yet", x.at(0, 3), 0);
        }
        for (int[] each : wrong) {
            WordSlides x = new WordSlides();
            row(x, each);
            C.due("10 no WORD", x.row(), 0);
            C.due("11 MURMUR", x.murmur(), 1);
            C.due("40 not refused", x.status(), 0);
            C.due("39 WORDS", x.count(0), 0);
        }
        WordSlides y = new WordSlides();
        row(y, 5, 0, 0, 0, 0, 0, 6, 0, 0, 7);
        C.due("10 WORDS around MURMUR", y.row(), 2);
        C.due("11 MURMUR", y.murmur(), 2);
        C.due("5 behind MURMUR", y.at(1, 0), 6);
    }

    private static void rowWithoutRoom() {
        WordSlides x = Valleys.withWords(14);
        row(x, 1, 1, 1, 2, 2, 2, 3, 3, 3, 0, 0, 0, 4);
        C.due("10 room for two", x.row(), 2);
        C.due("11 MURMUR", x.murmur(), 3);
        C.due("5 the last", x.at(15, 0), 2);
        C.due("39 no refusal", x.count(10), 0);
        row(x, 1, 1, 1);
        C.due("10 no room at all", x.row(), 0);
        C.due("11 MURMUR", x.murmur(), 1);
        C.due("40 no refusal", x.status(), 0);
        C.due("10 the TAPE is empty then", x.count(6), 0);
        WordSlides y = new WordSlides();
        int[] all = new int[400];
        java.util.Arrays.fill(all, 1);
        row(y, all);
        // 133 threes and a byte: 16 WORDS come.
        C.due("10 a whole TAPE", y.row(), 16);
        C.due("11 a whole TAPE", y.murmur(), 118);
    }

    private static void murmurOfTheLatestRow() {
        WordSlides x = new WordSlides();
        C.due("11 ahead of any", x.murmur(), 0);
        C.due("10 refused", x.row(), -6);
        C.due("11 ahead of any that was not REFUSED", x.murmur(), 0);
        row(x, 0, 0, 0, 0);
        x.row();
        C.due("11 two", x.murmur(), 2);
        x.row();
        C.due("11 a REFUSED one aside", x.murmur(), 2);
        row(x, 1, 0, 0);
        x.row();
        C.due("11 none in the latest", x.murmur(), 0);
    }

    private static void sixteenUndone() {
        for (int said : new int[] {15, 16, 17, 18, 40}) {
            WordSlides x = Valleys.withWords(2);
            for (int i = 0; i < said; i++) {
                x.say(0, 1, 0, 1);
            }
            int kept = Math.min(16, said);
            C.due("39 can be undone", x.count(5), kept);
            for (int i = 1; i <= kept; i++) {
                C.due("21 undone", x.undo(), 0);
                C.due("39 can be undone", x.count(5), kept - i);
                C.due("21 STRAIN", x.of(0, 8), said - i);
            }
            C.due("21 there is none", x.undo(), -3);
            C.due("21 STRAIN stays", x.of(0, 8), said - kept);
            C.due("40 status", x.status(), -3);
        }
    }

    private static void undoneBehindAPut() {
        WordSlides x = Valleys.withWords(2);
        x.say(0, 1, 0, 1);
        C.due("2 refused", x.put(0, 0, -1), -1);
        C.due("21 a REFUSED put() aside", x.count(5), 1);
        C.due("2 to what it is", x.put(0, 0, 0), 0);
        C.due("39 none can be", x.count(5), 0);
        C.due("21 ahead of a put()", x.undo(), -3);
        C.due("21 STRAIN stays", x.of(0, 8), 1);
        x.say(0, 1, 0, 1);
        C.due("21 behind a put()", x.undo(), 0);
        C.due("21 and no more", x.undo(), -3);
        C.due("21 STRAIN", x.of(0, 8), 1);
    }

    private static void undoneBehindTerms() {
        WordSlides x = Valleys.withWords(2);
        x.dawn();
        C.due("7 refused", x.terms(0, 1000), -1);
        C.due("21 a REFUSED terms() aside", x.count(5), 1);
        C.due("7 to what it is", x.terms(1, 0), 0);
        C.due("21 ahead of a terms()", x.undo(), -3);
        C.due("21 the DAY stays", x.count(15), 1);
        x.dawn();
        C.due("21 behind a terms()", x.undo(), 1);
        C.due("21 and no more", x.undo(), -3);
        C.due("21 the DAY", x.count(15), 1);
        // Other calls leave it, what they did stays.
        x.dawn();
        x.word(1, 0, 0);
        x.often(0, 9);
        x.mean(1);
        x.talk(0, 0, 1);
        x.seen(0, 5, 0);
        x.force(Texts.law(x, "falls 1"));
        x.winter(0, 9);
        x.image(0);
        C.due("21 behind others", x.undo(), 1);
        C.due("39 WORDS stay", x.count(0), 3);
        C.due("5 OFTEN stays", x.at(0, 3), 9);
        C.due("39 MEANINGS stay", x.count(1), 1);
        C.due("39 TALKS stay", x.count(2), 1);
        C.due("39 SEEN stays", x.count(3), 1);
        C.due("39 FORCE stays", x.count(12), 0);
        C.due("3 SNOW is as it was", x.of(0, 0), 10);
    }

    private static void undoneBehindBack() {
        WordSlides x = Valleys.withWords(2);
        x.say(0, 1, 0, 1);
        x.image(1);
        x.say(0, 1, 0, 1);
        C.due("38 refused", x.back(0), -2);
        C.due("38 a REFUSED back() aside", x.count(5), 2);
        C.due("38 back", x.back(1), 0);
        C.due("38 nothing can be undone", x.count(5), 0);
        C.due("21 there is none", x.undo(), -3);
        C.due("21 STRAIN stays", x.of(0, 8), 1);
    }

    private static void undoneByTalksTold() {
        WordSlides x = Valleys.withWords(2);
        x.dawn();
        C.due("13 run", Texts.told(x, "say 1 at 0 loud 1 times 10;dawn times 8"), 18);
        C.due("39 16 are kept", x.count(5), 16);
        for (int i = 0; i < 8; i++) {
            C.due("21 a DAWN", x.undo(), 1);
        }
        C.due("3 STRAIN of ten", x.of(0, 8), 10);
        for (int i = 0; i < 8; i++) {
            C.due("21 a WORD", x.undo(), 0);
        }
        C.due("21 there is none", x.undo(), -3);
        C.due("3 STRAIN of two", x.of(0, 8), 2);
        C.due("13 none that can't be", Texts.told(x, "say 1 at 0 loud 1;say 2 at 0 loud 1"), -3);
        C.due("39 nothing was kept", x.count(5), 0);
        C.due("13 none that is not run", Texts.told(x, "dawn times 20 if 1 = 2"), 0);
        C.due("39 nothing was kept", x.count(5), 0);
    }

    /** Undone, said again, undone: never what was said before that. */
    private static void undoAroundTheRing() {
        WordSlides x = Valleys.withWords(2);
        for (int round = 0; round < 5; round++) {
            for (int i = 0; i < 13; i++) {
                x.say(0, 1, 0, 1);
            }
            for (int i = 0; i < 9; i++) {
                C.due("21 undone", x.undo(), 0);
            }
        }
        C.due("3 four of each round", x.of(0, 8), 20);
        // 4 + 13 is more than 16, so of the first four one is not kept behind the second round.
        C.due("39 can be undone", x.count(5), 7);
        x.dawn();
        C.due("21 the DAWN", x.undo(), 1);
        for (int i = 0; i < 7; i++) {
            C.due("21 the rest", x.undo(), 0);
        }
        C.due("21 there is none", x.undo(), -3);
        C.due("3 STRAIN", x.of(0, 8), 13);
    }

    private static void theFirstInThatOrder() {
        E.refused("6 -1, then -2", -1, Valleys::busy, x -> x.often(9, 100));
        E.refused("19 -1 (PERSON), then -2", -1, Valleys::busy, x -> x.say(6, 9, 0, 1));
        E.refused("19 -1 (PLACE), then -2", -1, Valleys::busy, x -> x.say(0, 9, 4, 1));
        E.refused("19 -1 (LOUD), then -2", -1, Valleys::busy, x -> x.say(0, 9, 0, 4));
        E.refused("19 -1, then -3", -1, Valleys::busy, x -> x.say(6, 2, 0, 3));
        E.refused("19 -2, then -3", -2, FullAndEmptyTest::allBarred, x -> x.say(0, 3, 0, 1));
        E.refused("19 -3", -3, FullAndEmptyTest::allBarred, x -> x.say(0, 0, 0, 1));
        E.refused("26 -1, then -2", -1, Valleys::busy, x -> x.talk(9, 4, 1));
        E.refused("26 -1, then -2, then -5", -1, FullAndEmptyTest::full, x -> x.talk(9, 0, 4));
        E.refused("26 -2, then -5", -2, FullAndEmptyTest::full, x -> x.talk(9, 0, 1));
        E.refused("23 -1, then -5", -1, FullAndEmptyTest::full, x -> x.mean(-1));
        E.refused("31 -1, then -5", -1, FullAndEmptyTest::full, x -> x.seen(6, 1, 0));
        E.refused("12 -5, then -6", -5, FullAndEmptyTest::full, WordSlides::law);
        E.refused("38 -1, then -2", -1, WordSlides::new, x -> x.back(2));
        WordSlides x = FullAndEmptyTest.allBarred();
        C.due("26 a BARRED WORD can be a TALK", x.talk(0, 0, 1), 1);
        C.due("28 that can't be said", x.plan(4, NONE), NONE);
    }

    private static WordSlides allBarred() {
        WordSlides x = Valleys.busy();
        x.end(0);
        x.force(Texts.law(x, "bars"));
        return x;
    }

    private static void imagesKeepAllBut() {
        WordSlides x = Valleys.busy();
        Map<String, Integer> then = Look.at(x);
        x.image(1);
        // All is otherwise now: what the IMAGE keeps, and what it does not.
        WordSlides y = x;
        y.word(1, 0, 5);
        y.often(0, 99);
        for (int what = 0; what < 8; what++) {
            y.put(2, what, what == 2 ? 5 : 1);
        }
        y.terms(0, 500);
        y.terms(1, 9);
        y.hush();
        y.mean(7);
        y.cancel();
        y.forget();
        y.end(0);
        y.force(Texts.law(y, "falls 50;bars"));
        y.force(NONE);
        y.say(0, 0, 0, 3);
        y.dawn();
        Texts.told(y, "say 77 at 0 loud 1");
        Texts.law(y, "falls 1;x");
        row(y, 1, 0, 0, 0);
        y.row();
        y.winter(9, 80);
        Texts.feed(y, "abc");
        int tape = y.count(6);
        int fault = y.fault();
        int stopped = y.stopped();
        int murmur = y.murmur();
        int winter = y.drawn(0, 0);
        C.due("38 back", y.back(1), 0);
        E.stays("38 as it was then", then, Look.at(y), "tape", "fault", "murmur", "stopped", "undo", "winter");
        C.due("38 the TAPE aside", y.count(6), tape);
        C.due("38 FAULT aside", y.fault(), fault);
        C.due("38 where TALKS TOLD stopped aside", y.stopped(), stopped);
        C.due("38 MURMUR aside", y.murmur(), murmur);
        C.due("38 the latest WINTER aside", y.drawn(0, 0), winter);
        C.due("38 these are not as they were then", tape == 3 && fault == 8 && stopped == 0 && murmur == 1 ? 1 : 0, 1);
        C.due("38 nothing can be undone", y.count(5), 0);
    }

    /** PEOPLE's parts of a STRAIN, FAR of each PLACE, the PLACES of TALKS. */
    private static void imagesKeepWhatIsNotSeenAtOnce() {
        WordSlides x = Valleys.withWords(2);
        Valleys.slope(x, 5, 100, 102, NONE, 1);
        x.put(5, 7, 0);
        x.talk(1, 3, 1);
        x.say(4, 1, 0, 1);
        x.image(0);
        x.put(5, 7, 9);
        x.cancel();
        x.talk(1, 0, 1);
        x.say(3, 1, 0, 1);
        x.say(2, 1, 0, 1);
        x.back(0);
        C.due("38 FAR", x.of(5, 7), 0);
        // From PLACE 3 it would be shaken by 2 more, which is too much; from PLACE 0 by 1.
        C.due("38 the TALK's PLACE", x.plan(1, NONE), NONE);
        x.say(1, 1, 3, 1);
        C.due("38 slid", x.of(5, 9), 1);
        int[] upper = {0, 2, 0, 0, 1, 0};
        for (int person = 0; person < 6; person++) {
            C.due("38 PERSON " + person, x.share(5, person, 0), upper[person]);
        }
        C.due("38 of all", x.share(5, 4, 1), 3);
    }

    /** Both IMAGES have a WORD 0, a LAW 0, but not the same. */
    private static void imagesOfOtherWords() {
        WordSlides x = new WordSlides();
        x.image(1);
        x.word(9, 8, 7);
        x.often(0, 6);
        x.word(1, 1, 1);
        x.image(0);
        x.back(1);
        C.due("38 no WORD", x.at(0, 0), NONE);
        C.due("4 the first", x.word(3, 2, 1), 0);
        int[][] due = {{9, 8, 7, 6}, {3, 2, 1, 0}};
        x.image(1);
        for (int round = 0; round < 4; round++) {
            int k = round % 2;
            x.back(k);
            for (int what = 0; what < 4; what++) {
                C.due("38 WORD 0 of IMAGE " + k, x.at(0, what), due[k][what]);
            }
            C.due("38 WORDS", x.count(0), k == 0 ? 2 : 1);
            C.due("4 a new one, not said yet", x.at(x.word(5, 5, 5), 3), 0);
        }
    }

    private static void imagesStay() {
        WordSlides x = new WordSlides();
        x.put(0, 0, 1);
        x.image(0);
        x.put(0, 0, 2);
        x.image(1);
        x.put(0, 0, 3);
        for (int round = 0; round < 3; round++) {
            C.due("38 back to 0", x.back(0), 0);
            C.due("38 as it was", x.of(0, 0), 1);
            x.put(0, 0, 4 + round);
            C.due("38 back to 1", x.back(1), 0);
            C.due("38 as it was", x.of(0, 0), 2);
        }
        x.put(0, 0, 9);
        C.due("37 kept anew", x.image(1), 0);
        x.put(0, 0, 8);
        C.due("38 back to the new one", x.back(1), 0);
        C.due("38 as it was", x.of(0, 0), 9);
        C.due("38 the other stays", x.back(0), 0);
        C.due("38 as it was", x.of(0, 0), 1);
    }

    private static void countsOfRefusals() {
        WordSlides x = new WordSlides();
        x.image(0);
        for (int i = 0; i < 3; i++) {
            x.put(6, 0, 0);
            x.force(0);
            x.dawn();
            x.undo();
            x.undo();
            x.row();
        }
        for (int i = 0; i < 8; i++) {
            x.mean(0);
        }
        int[] due = {3, 3, 3, 3, 3};
        for (int i = 0; i < 5; i++) {
            C.due("39 refused", x.count(7 + i), due[i]);
        }
        x.back(0);
        for (int i = 0; i < 5; i++) {
            C.due("39 IMAGES do not keep that", x.count(7 + i), due[i]);
        }
    }

    private static void statusAheadOfAny() {
        WordSlides x = new WordSlides();
        C.due("40 ahead of any", x.status(), 0);
        x.of(9, 9);
        x.end(9);
        x.count(99);
        C.due("40 ahead of any of these", x.status(), 0);
    }

    private static void statusIsOfTheLatest() {
        WordSlides x = new WordSlides();
        x.put(6, 0, 0);
        C.due("40 refused", x.status(), -1);
        C.due("40 still", x.status(), -1);
        x.force(0);
        C.due("40 the latest", x.status(), -2);
        // What they answer looks as if they were refused: there is none.
        C.due("16 none was", x.force(NONE), NONE);
        C.due("40 not refused", x.status(), 0);
        x.undo();
        C.due("40 refused", x.status(), -3);
        C.due("2 none was", x.put(0, 2, 3), NONE);
        C.due("40 not refused", x.status(), 0);
    }
}
