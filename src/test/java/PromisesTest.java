/** Each promise in turn; the answers that are due were worked out by hand from the document. */
public final class PromisesTest {
    private static final Checks C = new Checks("PromisesTest");
    private static final int NONE = WordSlides.NONE;

    public static void main(String[] args) {
        newObject();
        putAndOf();
        words();
        termsOf();
        tape();
        rows();
        laws();
        tolds();
        asksAndWeather();
        sayings();
        dawns();
        undos();
        shares();
        meanings();
        phrases();
        talks();
        plans();
        plansByLaw();
        brings();
        bringsInTwoAndThree();
        threats();
        seens();
        signs();
        winters();
        imagesAndBack();
        counts();
        statuses();
        C.finish();
    }

    private static void due(String call, int got, int want) {
        C.due(call, got, want);
    }

    private static void newObject() {
        WordSlides x = new WordSlides();
        due("1 NONE", NONE, -1);
        for (int slope = 0; slope < 6; slope++) {
            due("1 snow", x.of(slope, 0), 0);
            due("1 hold", x.of(slope, 1), 500);
            due("1 below", x.of(slope, 2), NONE);
            due("1 gorge", x.of(slope, 3), 0);
            for (int place = 0; place < 4; place++) {
                due("1 far", x.of(slope, 4 + place), 1);
            }
            due("1 strain", x.of(slope, 8), 0);
            due("1 slid", x.of(slope, 9), 0);
        }
        for (int what = 0; what <= 16; what++) {
            due("1 count " + what, x.count(what), what == 12 ? NONE : 0);
        }
        due("1 murmur", x.murmur(), 0);
        due("1 fault", x.fault(), NONE);
        due("1 stopped", x.stopped(), NONE);
        due("1 status", x.status(), 0);
        due("1 drawn", x.drawn(0, 0), NONE);
        due("1 signs", x.signs(), 0);
    }

    private static void putAndOf() {
        WordSlides x = new WordSlides();
        due("2 snow", x.put(0, 0, 9999), 0);
        due("2 snow", x.put(0, 0, 0), 9999);
        due("2 snow", x.put(0, 0, 10000), -1);
        due("2 snow", x.put(0, 0, -1), -1);
        due("2 hold", x.put(5, 1, 1), 500);
        due("2 hold", x.put(5, 1, 9999), 1);
        due("2 hold", x.put(5, 1, 0), -1);
        due("2 hold", x.put(5, 1, 10000), -1);
        due("3 hold", x.of(5, 1), 9999);
        due("2 below", x.put(0, 2, 5), NONE);
        due("2 status", x.status(), 0);
        due("2 below", x.put(0, 2, 1), 5);
        due("2 below", x.put(0, 2, NONE), 1);
        due("2 below", x.put(0, 2, 0), -1);
        due("2 status", x.status(), -1);
        due("2 below", x.put(0, 2, 6), -1);
        due("2 below", x.put(0, 2, -2), -1);
        due("2 below", x.put(3, 2, 2), -1);
        due("2 below", x.put(5, 2, NONE), NONE);
        due("2 gorge", x.put(2, 3, 1), 0);
        due("2 gorge", x.put(2, 3, 0), 1);
        due("2 gorge", x.put(2, 3, -1), -1);
        due("2 gorge", x.put(2, 3, 2), -1);
        due("2 far", x.put(2, 4, 0), 1);
        due("2 far", x.put(2, 7, 9), 1);
        due("2 far", x.put(2, 7, 10), -1);
        due("2 far", x.put(2, 7, -1), -1);
        due("3 far", x.of(2, 4), 0);
        due("3 far", x.of(2, 5), 1);
        due("3 far", x.of(2, 7), 9);
        due("2 what", x.put(2, 8, 0), -1);
        due("2 what", x.put(2, -1, 0), -1);
        due("2 slope", x.put(-1, 0, 0), -1);
        due("2 slope", x.put(6, 0, 0), -1);
        due("3 slope", x.of(-1, 0), NONE);
        due("3 slope", x.of(6, 0), NONE);
        due("3 what", x.of(0, -1), NONE);
        due("3 what", x.of(0, 10), NONE);
        due("2 nothing slides", x.put(1, 0, 700), 0);
        due("2 nothing slides", x.of(1, 0), 700);
        due("2 nothing slides", x.of(1, 9), 0);
        due("2 refused", x.count(7), 16);
    }

    private static void words() {
        WordSlides x = new WordSlides();
        due("4 word", x.word(1, 0, 0), 0);
        due("4 word", x.word(9, 9, 7), 1);
        due("4 long", x.word(0, 0, 0), -1);
        due("4 long", x.word(10, 0, 0), -1);
        due("4 rs", x.word(1, -1, 0), -1);
        due("4 rs", x.word(1, 10, 0), -1);
        due("4 meaning", x.word(1, 0, -1), -1);
        due("4 meaning", x.word(1, 0, 8), -1);
        for (int i = 2; i < 16; i++) {
            due("4 word " + i, x.word(3, 1, 2), i);
        }
        due("4 full", x.word(3, 1, 2), -5);
        due("4 wrong before full", x.word(3, 1, 8), -1);
        due("5 long", x.at(1, 0), 9);
        due("5 rs", x.at(1, 1), 9);
        due("5 meaning", x.at(1, 2), 7);
        due("5 often", x.at(1, 3), 0);
        due("5 long", x.at(15, 0), 3);
        due("5 what", x.at(1, 4), NONE);
        due("5 what", x.at(1, -1), NONE);
        due("5 word", x.at(-1, 0), NONE);
        due("5 word", x.at(16, 0), NONE);
        due("6 often", x.often(1, 99), 0);
        due("6 often", x.often(1, 7), 99);
        due("5 often", x.at(1, 3), 7);
        due("6 value", x.often(1, 100), -1);
        due("6 value", x.often(1, -1), -1);
        due("6 word", x.often(16, 1), -2);
        due("6 word", x.often(-1, 1), -2);
        due("6 value before word", x.often(16, 100), -1);
        due("6 kept", x.often(1, 0), 7);
    }

    private static void termsOf() {
        WordSlides x = new WordSlides();
        due("7 day", x.terms(0, 999), 0);
        due("7 day", x.terms(0, 1000), -1);
        due("7 day", x.terms(0, -1), -1);
        due("7 day", x.terms(0, 5), 999);
        due("7 mood", x.terms(1, 9), 0);
        due("7 mood", x.terms(1, 10), -1);
        due("7 mood", x.terms(1, -1), -1);
        due("7 mood", x.terms(1, 3), 9);
        due("7 what", x.terms(2, 0), -1);
        due("7 what", x.terms(-1, 0), -1);
        due("39 day", x.count(15), 5);
        due("39 mood", x.count(16), 3);
    }

    private static void tape() {
        WordSlides x = new WordSlides();
        for (int i = 1; i <= 20; i++) {
            due("8 feed", x.feed(1, 2, 3, 4, 5), 20 * i);
        }
        due("8 too much", x.feed(0, 0, 0, 0, 0), NONE);
        due("8 not counted", x.count(7), 0);
        due("9 end", x.end(401), NONE);
        due("9 end", x.end(400), 400);
        due("9 end", x.end(381), 381);
        due("8 too much", x.feed(0, 0, 0, 0, 0), NONE);
        due("9 end", x.end(382), NONE);
        due("9 end", x.end(-1), NONE);
        due("9 end", x.end(380), 380);
        due("8 feed", x.feed(0, 0, 0, 0, 0), 400);
        due("9 end", x.end(0), 0);
        due("9 end", x.end(0), 0);
        due("39 bytes", x.count(6), 0);
        // The highest byte of a number comes first: 9, 8, 7 and 1, 0, 0.
        x.feed(0x09080701, 0x00000000, 0, 0, 0);
        x.end(6);
        due("8 order", x.row(), 2);
        due("8 order", x.at(0, 0), 9);
        due("8 order", x.at(0, 1), 8);
        due("8 order", x.at(0, 2), 7);
        due("8 order", x.at(1, 0), 1);
    }

    private static void rows() {
        WordSlides x = new WordSlides();
        due("10 empty", x.row(), -6);
        due("11 ahead of any", x.murmur(), 0);
        // 3 1 2 | 10 0 0 | 0 0 0 | 255 0 0 | 1 10 0 | 1 0 8 | 9 9
        x.feed(0x0301020A, 0x00000000, 0x00FF0000, 0x010A0001, 0x00080909);
        due("10 row", x.row(), 1);
        due("11 murmur", x.murmur(), 6);
        due("10 word", x.at(0, 0), 3);
        due("10 word", x.at(0, 1), 1);
        due("10 word", x.at(0, 2), 2);
        due("10 tape", x.count(6), 0);
        due("10 empty", x.row(), -6);
        due("11 stays", x.murmur(), 6);
        for (int i = 0; i < 14; i++) {
            x.word(1, 0, 0);
        }
        // Two words and no room for the second.
        x.feed(0x04000005, 0x00000000, 0, 0, 0);
        x.end(6);
        due("10 no room", x.row(), 1);
        due("11 no room", x.murmur(), 1);
        due("10 words", x.count(0), 16);
        x.feed(0x04000005, 0x00000000, 0, 0, 0);
        x.end(3);
        due("10 no room, not refused", x.row(), 0);
        due("11 no room", x.murmur(), 1);
        due("40 status", x.status(), 0);
        due("39 refused", x.count(10), 0);
        due("39 refused", x.count(11), 2);
    }

    private static void laws() {
        WordSlides x = new WordSlides();
        for (int i = 0; i < 6; i++) {
            due("12 law", Texts.law(x, "falls " + i), i);
            due("12 tape", x.count(6), 0);
        }
        due("14 fault", x.fault(), NONE);
        due("12 full", Texts.law(x, "falls"), -5);
        due("12 full, tape", x.count(6), 0);
        due("14 not read", x.fault(), NONE);
        due("12 full, empty tape", x.law(), -5);
        due("39 laws", x.count(4), 6);
        due("16 none was", x.force(5), NONE);
        due("16 status", x.status(), 0);
        due("18 by law", x.weather(0, 0), 5);
        due("16 force", x.force(3), 5);
        due("18 by law", x.weather(0, 0), 3);
        due("16 no such", x.force(6), -2);
        due("16 no such", x.force(-2), -2);
        due("39 force", x.count(12), 3);
        due("16 none", x.force(NONE), 3);
        due("18 without", x.weather(0, 0), 10);
        due("16 none was", x.force(NONE), NONE);
        WordSlides y = new WordSlides();
        due("12 blanks", Texts.law(y, "   "), -6);
        due("14 blanks", y.fault(), 3);
        due("12 empty", y.law(), -6);
        due("14 empty", y.fault(), 0);
        due("12 tape", Texts.law(y, "falls 1 ;  "), -6);
        due("14 end", y.fault(), 11);
        due("12 tape", y.count(6), 0);
        due("16 no law", y.force(0), -2);
        due("14 good", Texts.law(y, "bars"), 0);
        due("14 good", y.fault(), NONE);
    }

    private static void tolds() {
        WordSlides x = new WordSlides();
        x.word(5, 0, 0);
        x.put(0, 0, 100);
        x.put(0, 1, 109);
        // 4, 8, then 9 + 4 = 13 would slide: said twice, asked thrice.
        due("13 if", Texts.told(x, "say 0 at 0 loud 1 times 3 if strain 0 < 8"), 2);
        due("13 strain", x.of(0, 8), 8);
        due("13 undo", x.count(5), 2);
        due("13 slides", Texts.told(x, "say words - 1 at 0 loud 1; dawn if slid = 1 and harm = 100 and done = 1"), 2);
        due("13 day", x.count(15), 1);
        due("13 harm", x.count(13), 100);
        due("13 person 0", x.share(0, 0, 0), 1);
        due("13 slid in this text", Texts.told(x, "dawn if slid > 0 or harm > 0 or done > 0"), 0);
        due("15 stopped", x.stopped(), NONE);
        // All of it is as it was, what can be undone too.
        due("13 can't be", Texts.told(x, "dawn times 2;say 0 at 0 loud 1;say 0 at 4 loud 1"), -3);
        due("15 stopped", x.stopped(), 2);
        due("13 as it was", x.count(15), 1);
        due("13 as it was", x.of(1, 8), 0);
        due("13 as it was", x.count(5), 4);
        due("14 no fault", x.fault(), NONE);
        due("13 loud", Texts.told(x, "say 0 at 0 loud 0"), -3);
        due("15 stopped", x.stopped(), 0);
        due("13 loud", Texts.told(x, "say 0 at 0 loud 4"), -3);
        due("13 word", Texts.told(x, "say 1 at 0 loud 1"), -3);
        due("13 word", Texts.told(x, "say 0 - 1 at 0 loud 1"), -3);
        due("13 broken sum", Texts.told(x, "say 0 / done at 0 loud 1"), -3);
        due("13 broken if", Texts.told(x, "say 0 at 0 loud 9 if 1 / done = 0"), 0);
        due("15 none", x.stopped(), NONE);
        due("13 can't be", Texts.told(x, "dawn;say 9 at 0 loud 1"), -3);
        due("13 fault", Texts.told(x, "dawn dawn"), -6);
        due("14 fault", x.fault(), 5);
        due("15 latest told", x.stopped(), NONE);
        due("13 empty", x.told(), -6);
        due("14 empty", x.fault(), 0);
        due("13 blanks", Texts.told(x, "  "), -6);
        due("14 blanks", x.fault(), 2);
        x.terms(0, 997);
        due("13 last day", Texts.told(x, "dawn times 3"), -3);
        due("13 as it was", x.count(15), 997);
        due("13 last day", Texts.told(x, "dawn times 3 if day < 999"), 2);
        due("13 last day", x.count(15), 999);
        Texts.law(x, "bars if loud = 2");
        x.force(0);
        due("13 barred", Texts.told(x, "say 0 at 0 loud 1;say 0 at 0 loud 2"), -3);
        due("15 stopped", x.stopped(), 1);
        due("39 refused once a call", x.count(9), 9);
        x.terms(0, 0);
        due("13 times", Texts.told(x, "dawn times 20"), 20);
        due("21 16 are kept", x.count(5), 16);
    }

    private static void asksAndWeather() {
        WordSlides x = new WordSlides();
        x.word(4, 2, 0);
        x.word(1, 0, 0);
        x.put(1, 5, 9);
        due("17 without", x.asks(0, 0, 3, 0, 0), 11);
        due("17 far", x.asks(0, 1, 3, 1, 0), 3);
        due("17 0 at least", x.asks(1, 1, 3, 1, 0), 0);
        due("17 not barred", x.asks(0, 0, 1, 0, 1), 0);
        due("17 word", x.asks(2, 0, 1, 0, 0), NONE);
        due("17 word", x.asks(-1, 0, 1, 0, 0), NONE);
        due("17 place", x.asks(0, 4, 1, 0, 0), NONE);
        due("17 place", x.asks(0, -1, 1, 0, 1), NONE);
        due("17 loud", x.asks(0, 0, 0, 0, 0), NONE);
        due("17 loud", x.asks(0, 0, 4, 0, 1), NONE);
        due("17 slope", x.asks(0, 0, 1, 6, 0), NONE);
        due("17 slope", x.asks(0, 0, 1, -1, 0), NONE);
        due("17 slope aside", x.asks(0, 0, 1, 6, 1), 0);
        due("17 what", x.asks(0, 0, 1, 0, 2), NONE);
        due("17 what", x.asks(0, 0, 1, 0, -1), NONE);
        due("18 falls", x.weather(5, 0), 10);
        due("18 thaws", x.weather(5, 1), 0);
        due("18 slope", x.weather(6, 0), NONE);
        due("18 slope", x.weather(-1, 0), NONE);
        due("18 what", x.weather(0, 2), NONE);
        due("18 what", x.weather(0, -1), NONE);
        // The last that holds tells; beyond the ends the nearest; "bars" has no slope, weather no word.
        x.force(Texts.law(x, "shakes 1000 * r;shakes 7 if slope = 1;shakes 1 / place if slope = 2;bars if snow + far + slope + 3 = 0 and word = 1;"
            + "falls 100 if word + long + r + loud + place + far = 0 - 6;thaws 0 - 1;thaws day if slope = 3;thaws 500 if slope = 4"));
        due("17 most", x.asks(0, 0, 1, 0, 0), 999);
        due("17 least", x.asks(1, 0, 1, 0, 0), 0);
        due("17 last", x.asks(0, 0, 1, 1, 0), 7);
        due("17 broken, so the one ahead", x.asks(0, 0, 1, 2, 0), 999);
        due("17 last", x.asks(0, 1, 1, 2, 0), 1);
        due("17 barred", x.asks(1, 0, 1, 0, 1), 1);
        due("17 not barred", x.asks(0, 0, 1, 0, 1), 0);
        due("18 most", x.weather(0, 0), 99);
        due("18 least", x.weather(0, 1), 0);
        x.terms(0, 42);
        due("18 day", x.weather(3, 1), 42);
        due("18 most", x.weather(4, 1), 99);
        due("18 snow", x.put(0, 0, 30), 0);
        WordSlides y = new WordSlides();
        y.word(2, 0, 0);
        y.force(Texts.law(y, "shakes snow + day * 100 + mood * 10"));
        y.put(3, 0, 5);
        y.terms(0, 2);
        y.terms(1, 4);
        due("17 snow, day, mood", y.asks(0, 0, 1, 3, 0), 245);
    }

    private static void sayings() {
        WordSlides x = new WordSlides();
        x.word(3, 0, 0);
        due("19 person", x.say(6, 0, 0, 1), -1);
        due("19 person", x.say(-1, 0, 0, 1), -1);
        due("19 place", x.say(0, 0, 4, 1), -1);
        due("19 place", x.say(0, 0, -1, 1), -1);
        due("19 loud", x.say(0, 0, 0, 0), -1);
        due("19 loud", x.say(0, 0, 0, 4), -1);
        due("19 word", x.say(0, 1, 0, 1), -2);
        due("19 word", x.say(0, -1, 0, 1), -2);
        due("19 order", x.say(0, 1, 0, 4), -1);
        // At HOLD nothing slides, above it does; without snow never.
        x.put(0, 0, 10);
        x.put(0, 1, 12);
        x.put(1, 1, 1);
        due("19 at hold", x.say(0, 0, 0, 1), 0);
        due("19 strain", x.of(0, 8), 2);
        due("19 above hold", x.say(0, 0, 0, 1), 1);
        due("19 harm", x.count(13), 10);
        due("19 down", x.count(14), 0);
        due("19 snow", x.of(0, 0), 0);
        due("19 strain", x.of(0, 8), 0);
        due("19 slid", x.of(0, 9), 1);
        due("19 without snow", x.of(1, 9), 0);
        due("19 without snow", x.of(1, 8), 4);
        // 0 to 2, which slides by it, to 5, which has room for 9,999; 3 into the gorge.
        WordSlides y = new WordSlides();
        y.word(9, 0, 0);
        y.put(0, 0, 100);
        y.put(0, 1, 100);
        y.put(0, 2, 2);
        y.put(2, 0, 450);
        y.put(2, 2, 5);
        y.put(2, 3, 1);
        y.put(5, 0, 9500);
        y.put(5, 1, 9999);
        y.put(3, 0, 600);
        y.put(3, 3, 1);
        due("19 slides", y.say(5, 0, 3, 1), 4);
        due("19 overfull slope slides", y.of(5, 9), 1);
        due("19 gorge", y.count(14), 600);
        due("19 9,999 at most", y.count(13), 9999);
        due("19 below before gorge", y.of(2, 0), 0);
        // All are asked ahead of any slide: 1 shakes by its snow as it was.
        WordSlides z = new WordSlides();
        z.word(1, 0, 0);
        z.force(Texts.law(z, "shakes snow;bars if loud = 3"));
        z.put(0, 0, 300);
        z.put(0, 2, 1);
        z.put(1, 0, 50);
        due("19 ahead of slides", z.say(0, 0, 0, 1), 1);
        due("19 ahead of slides", z.of(1, 8), 50);
        due("19 ahead of slides", z.of(1, 0), 350);
        due("19 barred", z.say(0, 0, 0, 3), -3);
        due("19 barred", z.count(5), 1);
    }

    private static void dawns() {
        WordSlides x = new WordSlides();
        x.word(5, 0, 0);
        x.say(0, 0, 0, 1);
        due("20 dawn", x.dawn(), 0);
        due("20 day", x.count(15), 1);
        due("20 strain", x.of(0, 8), 0);
        due("20 snow", x.of(0, 0), 10);
        x.put(0, 0, 495);
        x.put(0, 2, 1);
        x.put(1, 0, 0);
        x.put(2, 0, 9995);
        x.put(2, 1, 9999);
        due("20 slides", x.dawn(), 2);
        due("20 below", x.of(1, 9), 1);
        due("20 harm", x.count(13), 515);
        due("20 most", x.of(2, 0), 9999);
        due("20 slid", x.of(2, 9), 0);
        x.terms(0, 999);
        due("20 last", x.dawn(), -3);
        due("20 last", x.count(15), 999);
        // Both are asked of the new day, as the snow was.
        WordSlides y = new WordSlides();
        y.force(Texts.law(y, "falls day * 20 + snow;thaws snow / 2;thaws 99 if slope = 5"));
        y.put(0, 0, 30);
        y.put(5, 0, 40);
        due("20 by law", y.dawn(), 0);
        due("20 by law", y.of(0, 0), 30 + 50 - 15);
        due("20 by law", y.of(1, 0), 20);
        due("20 0 at least", y.of(5, 0), 40 + 60 - 99);
        y.dawn();
        due("20 0 at least", y.of(5, 0), 0);
    }

    private static void undos() {
        WordSlides x = new WordSlides();
        x.word(5, 0, 0);
        due("21 none", x.undo(), -3);
        x.put(0, 0, 498);
        due("21 said", x.say(2, 0, 0, 1), 1);
        due("21 dawn", x.dawn(), 0);
        x.word(2, 0, 0);
        x.mean(3);
        due("21 kept", x.count(5), 2);
        due("21 dawn", x.undo(), 1);
        due("21 day", x.count(15), 0);
        due("21 snow", x.of(1, 0), 0);
        due("21 strain", x.of(1, 8), 4);
        due("21 share stays", x.share(0, 2, 0), 1);
        due("21 said", x.undo(), 0);
        due("21 snow", x.of(0, 0), 498);
        due("21 harm", x.count(13), 0);
        due("21 slid", x.of(0, 9), 0);
        due("21 share", x.share(0, 2, 0), NONE);
        due("21 strain", x.of(1, 8), 0);
        due("21 words stay", x.count(0), 2);
        due("21 meanings stay", x.count(1), 1);
        due("21 none", x.undo(), -3);
        for (int i = 0; i < 20; i++) {
            x.say(0, 1, 0, 1);
        }
        due("21 16 are kept", x.count(5), 16);
        for (int i = 0; i < 16; i++) {
            due("21 undo", x.undo(), 0);
        }
        due("21 no more", x.undo(), -3);
        due("21 four stay", x.of(1, 8), 4);
        x.say(0, 1, 0, 1);
        x.put(9, 9, 9);
        x.terms(0, -1);
        due("21 refused put", x.count(5), 1);
        x.put(4, 0, 0);
        due("21 behind put", x.undo(), -3);
        x.say(0, 1, 0, 1);
        x.terms(1, 0);
        due("21 behind terms", x.undo(), -3);
        x.say(0, 9, 0, 1);
        due("21 refused say", x.count(5), 0);
        Texts.told(x, "say 0 at 0 loud 1;dawn");
        due("21 told", x.undo(), 1);
        due("21 told", x.undo(), 0);
        due("21 told", x.count(5), 0);
    }

    private static void shares() {
        WordSlides x = new WordSlides();
        x.word(5, 0, 0);
        x.word(9, 0, 0);
        x.put(0, 0, 100);
        x.put(0, 1, 110);
        due("22 never slid", x.share(0, 0, 0), NONE);
        x.say(1, 0, 0, 1);
        x.say(4, 0, 0, 1);
        x.say(4, 0, 0, 1);
        due("22 slid", x.of(0, 9), 1);
        // 4 of 12 and 8 of 12.
        due("22 upper", x.share(0, 1, 0), 1);
        due("22 lower", x.share(0, 1, 1), 3);
        due("22 upper", x.share(0, 4, 0), 2);
        due("22 lower", x.share(0, 4, 1), 3);
        due("22 nothing", x.share(0, 0, 0), 0);
        due("22 of 1", x.share(0, 0, 1), 1);
        due("22 slope", x.share(6, 0, 0), NONE);
        due("22 slope", x.share(-1, 0, 0), NONE);
        due("22 person", x.share(0, 6, 0), NONE);
        due("22 person", x.share(0, -1, 0), NONE);
        due("22 what", x.share(0, 0, 2), NONE);
        due("22 what", x.share(0, 0, -1), NONE);
        // What is strained later is not of the latest slide; a later slide is.
        x.say(2, 1, 0, 1);
        due("22 latest", x.share(0, 2, 0), 0);
        x.put(0, 0, 103);
        x.say(2, 0, 0, 1);
        due("22 latest", x.share(0, 2, 0), 1);
        due("22 latest", x.share(0, 4, 0), 0);
        x.put(0, 0, 105);
        x.dawn();
        due("22 slid at dawn", x.of(0, 9), 3);
        due("22 nobody's", x.share(0, 2, 0), NONE);
        due("22 nobody's", x.share(0, 2, 1), NONE);
    }

    private static void meanings() {
        WordSlides x = new WordSlides();
        due("24 none", x.hush(), 0);
        due("23 wrong", x.mean(8), -1);
        due("23 wrong", x.mean(-1), -1);
        for (int i = 0; i < 5; i++) {
            due("23 mean", x.mean(i == 0 ? 7 : 0), i + 1);
        }
        due("23 full", x.mean(0), -5);
        due("23 wrong before full", x.mean(8), -1);
        due("39 meanings", x.count(1), 5);
        due("24 hush", x.hush(), 5);
        due("39 meanings", x.count(1), 0);
        due("23 again", x.mean(0), 1);
    }

    private static void phrases() {
        WordSlides x = new WordSlides();
        x.word(4, 0, 0);
        x.word(3, 0, 1);
        x.word(3, 0, 0);
        x.word(3, 9, 0);
        due("25 empty", x.saying(0, 1, 0), 0);
        due("25 empty", x.saying(0, 1, 1), 1);
        due("25 empty", x.saying(0, 1, 2), NONE);
        x.mean(0);
        x.mean(1);
        x.mean(0);
        // 2 or 3, then 1, then 2 or 3.
        due("25 long", x.saying(0, 1, 0), 9);
        due("25 rows", x.saying(0, 1, 1), 4);
        due("25 first", x.saying(0, 1, 2), 2);
        due("25 first", x.saying(0, 1, 3), 1);
        due("25 first", x.saying(0, 1, 4), 2);
        due("25 behind", x.saying(0, 1, 5), NONE);
        due("25 what", x.saying(0, 1, -1), NONE);
        due("25 place", x.saying(4, 1, 0), NONE);
        due("25 place", x.saying(-1, 1, 1), NONE);
        due("25 loud", x.saying(0, 0, 0), NONE);
        due("25 loud", x.saying(0, 4, 1), NONE);
        // A law by which 2 shakes most: one 2 at most, then none at all.
        x.force(Texts.law(x, "shakes 0;shakes 10 if word = 2;shakes 9 if word = 3;bars if word = 1 and loud = 2"));
        x.put(0, 0, 1);
        x.put(0, 1, 20);
        due("25 19 is room", x.saying(0, 1, 1), 3);
        due("25 first", x.saying(0, 1, 2), 2);
        due("25 first", x.saying(0, 1, 4), 3);
        x.put(0, 1, 19);
        due("25 18 is room", x.saying(0, 1, 1), 1);
        due("25 first", x.saying(0, 1, 2), 3);
        x.put(0, 1, 10);
        due("25 9 is room", x.saying(0, 1, 0), 10);
        due("25 rows", x.saying(0, 1, 1), 2);
        due("25 first", x.saying(0, 1, 2), 0);
        due("25 first", x.saying(0, 1, 4), 3);
        due("25 barred", x.saying(0, 2, 0), NONE);
        due("25 barred", x.saying(0, 2, 1), 0);
        due("25 barred", x.saying(0, 2, 2), NONE);
        // A slope above its hold slides by any word, even one that does not shake it.
        x.put(0, 0, 11);
        due("25 overfull", x.saying(0, 1, 1), 0);
        x.put(0, 0, 0);
        due("25 without snow", x.saying(0, 1, 1), 4);
        x.mean(5);
        due("25 no such word", x.saying(0, 1, 0), NONE);
        x.hush();
        x.put(0, 0, 11);
        due("25 empty", x.saying(0, 1, 1), 1);
        WordSlides y = new WordSlides();
        for (int i = 0; i < 16; i++) {
            y.word(2, 0, 6);
        }
        for (int i = 0; i < 5; i++) {
            y.mean(6);
        }
        due("25 all rows", y.saying(3, 3, 1), 1048576);
        due("25 nothing is said", y.of(0, 8), 0);
    }

    private static void talks() {
        WordSlides x = new WordSlides();
        due("27 none", x.cancel(), 0);
        due("26 no word", x.talk(0, 0, 1), -2);
        due("26 place", x.talk(0, 4, 1), -1);
        due("26 place", x.talk(0, -1, 1), -1);
        due("26 loud", x.talk(0, 0, 0), -1);
        due("26 loud", x.talk(0, 0, 4), -1);
        x.word(1, 0, 0);
        for (int i = 0; i < 6; i++) {
            due("26 talk", x.talk(0, 3, 3), i);
        }
        due("26 full", x.talk(0, 0, 1), -5);
        due("26 word before full", x.talk(1, 0, 1), -2);
        due("26 word before full", x.talk(-1, 0, 1), -2);
        due("39 talks", x.count(2), 6);
        due("27 cancel", x.cancel(), 6);
        due("39 talks", x.count(2), 0);
        due("26 again", x.talk(0, 0, 1), 0);
    }

    private static void plans() {
        WordSlides x = new WordSlides();
        x.word(9, 0, 0);
        x.word(5, 0, 0);
        due("28 days", x.plan(0, NONE), NONE);
        due("28 days", x.plan(5, NONE), NONE);
        due("28 no talk", x.plan(1, NONE), 1);
        due("28 no talk", x.plan(1, 0), NONE);
        x.talk(0, 0, 1);
        x.talk(1, 0, 1);
        x.talk(1, 0, 1);
        // Room for 12 a day: 8 + 4 or 4 + 4.
        x.put(0, 0, 88);
        x.put(0, 1, 100);
        x.force(Texts.law(x, "falls 0"));
        due("28 one day", x.plan(1, NONE), NONE);
        // Not all three on one day, so 8 rows less 2.
        due("28 two days", x.plan(2, NONE), 6);
        due("28 first", x.plan(2, 0), 0);
        due("28 first", x.plan(2, 1), 0);
        due("28 first", x.plan(2, 2), 1);
        due("28 i", x.plan(2, 3), NONE);
        due("28 i", x.plan(2, -2), NONE);
        x.force(NONE);
        // With 10 of snow more there is room for 2 tomorrow: nothing can be said then.
        due("28 snow falls", x.plan(2, NONE), NONE);
        x.cancel();
        due("28 no talk, no slide", x.plan(2, NONE), 1);
        due("28 slide at dawn", x.plan(3, NONE), NONE);
        x.terms(0, 999);
        due("28 last day", x.plan(2, NONE), NONE);
        due("28 last day", x.plan(1, NONE), 1);
        due("28 on paper", x.count(15), 999);
        due("28 on paper", x.of(0, 0), 88);
    }

    private static void plansByLaw() {
        WordSlides x = new WordSlides();
        x.word(1, 0, 0);
        x.talk(0, 0, 1);
        x.talk(0, 1, 1);
        x.force(Texts.law(x, "bars if day = 7 and place = 1 or day = 8 and place = 0;falls 0;shakes 1"));
        x.terms(0, 7);
        due("28 barred then", x.plan(1, NONE), NONE);
        due("28 barred then", x.plan(2, NONE), 1);
        due("28 barred then", x.plan(2, 0), 0);
        due("28 barred then", x.plan(2, 1), 1);
        due("28 barred then", x.plan(3, NONE), 4);
        due("28 barred then", x.plan(4, NONE), 9);
        // Strain of today counts today alone; a slope above its hold slides by a word, not by silence.
        x.put(0, 0, 10);
        x.put(0, 1, 10);
        due("28 no room", x.plan(4, NONE), NONE);
        x.put(0, 1, 11);
        due("28 room for one a day", x.plan(3, NONE), 3);
        x.force(NONE);
        WordSlides y = new WordSlides();
        y.word(4, 0, 0);
        y.put(0, 0, 10);
        y.put(0, 1, 14);
        y.force(Texts.law(y, "falls 0"));
        y.say(0, 0, 0, 1);
        y.talk(0, 0, 1);
        due("28 strain", y.plan(1, NONE), NONE);
        due("28 strain", y.plan(2, NONE), 1);
        due("28 strain", y.plan(2, 0), 1);
        y.put(0, 1, 9);
        due("28 overfull at dawn", y.plan(2, NONE), NONE);
        Texts.law(y, "falls 0;thaws 9");
        y.force(1);
        due("28 thawed by then", y.plan(2, NONE), 1);
        due("28 thawed by then", y.plan(2, 0), 1);
    }

    private static void brings() {
        WordSlides x = new WordSlides();
        x.word(2, 0, 0);
        x.word(5, 0, 0);
        x.put(0, 0, 100);
        x.put(0, 1, 108);
        x.put(0, 3, 1);
        // By 1, 3, 5 and 4, 9, 14: the first above 8 is word 1, LOUD 2.
        due("29 one", x.bring(0, 0, NONE), 1);
        due("29 one", x.bring(0, 0, 0), 4);
        due("29 one", x.bring(0, 0, 1), NONE);
        due("29 one", x.bring(0, 0, 3), NONE);
        due("29 i", x.bring(0, 0, -2), NONE);
        due("29 slope", x.bring(6, 0, NONE), NONE);
        due("29 slope", x.bring(-1, 0, NONE), NONE);
        due("29 place", x.bring(0, 4, NONE), NONE);
        due("29 place", x.bring(0, -1, NONE), NONE);
        due("29 no snow", x.bring(1, 0, NONE), NONE);
        x.put(0, 3, 0);
        due("29 harm", x.bring(0, 0, NONE), NONE);
        x.put(0, 2, 3);
        due("29 held below", x.bring(0, 0, NONE), 1);
        x.put(3, 1, 99);
        due("29 harm below", x.bring(0, 0, NONE), NONE);
        x.put(3, 3, 1);
        due("29 gorge below", x.bring(0, 0, NONE), 1);
        due("29 snow from above", x.bring(3, 0, 0), 4);
        // Another slope slides harmfully by all that would do.
        x.put(4, 0, 50);
        x.put(4, 1, 56);
        due("29 harm beside", x.bring(0, 0, NONE), NONE);
        x.put(4, 1, 58);
        due("29 harm beside", x.bring(0, 0, NONE), NONE);
        x.put(4, 1, 59);
        due("29 no harm beside", x.bring(0, 0, 0), 4);
        x.force(Texts.law(x, "bars if word = 1 and loud = 2"));
        // 9 is still the only sum that does: 5 and 4.
        due("29 barred", x.bring(0, 0, NONE), 2);
        due("29 barred", x.bring(0, 0, 0), 2);
        due("29 barred", x.bring(0, 0, 1), 3);
        x.put(4, 3, 1);
        due("29 not barred", x.bring(0, 0, 0), 5);
        due("29 on paper", x.of(0, 0), 100);
    }

    private static void bringsInTwoAndThree() {
        WordSlides x = new WordSlides();
        x.word(2, 0, 0);
        x.word(3, 0, 0);
        x.put(0, 0, 100);
        x.put(0, 3, 1);
        // Word 0 shakes by 1, 3, 5, word 1 by 2, 5, 8.
        x.put(0, 1, 115);
        due("29 two", x.bring(0, 0, NONE), 2);
        due("29 two", x.bring(0, 0, 0), 5);
        due("29 two", x.bring(0, 0, 1), 5);
        due("29 two", x.bring(0, 0, 2), NONE);
        x.put(0, 1, 112);
        due("29 two", x.bring(0, 0, 0), 2);
        due("29 two", x.bring(0, 0, 1), 5);
        x.put(0, 1, 116);
        due("29 three", x.bring(0, 0, NONE), 3);
        due("29 three", x.bring(0, 0, 0), 0);
        due("29 three", x.bring(0, 0, 1), 5);
        due("29 three", x.bring(0, 0, 2), 5);
        x.put(0, 1, 123);
        due("29 three", x.bring(0, 0, 0), 5);
        due("29 three", x.bring(0, 0, 2), 5);
        x.put(0, 1, 124);
        due("29 not by three", x.bring(0, 0, NONE), NONE);
        x.say(0, 0, 0, 1);
        due("29 strain", x.bring(0, 0, NONE), 3);
        // Slope 1 has to be emptied into slope 2 first; all together would come into the village.
        WordSlides y = new WordSlides();
        y.word(9, 0, 0);
        y.word(1, 0, 0);
        y.force(Texts.law(y, "shakes 0;shakes 1 if word = 0 and slope = 0;shakes 1 if word = 1 and slope = 1"));
        y.put(0, 0, 50);
        y.put(0, 1, 50);
        y.put(0, 2, 1);
        y.put(1, 0, 60);
        y.put(1, 1, 60);
        y.put(1, 2, 2);
        y.put(2, 1, 60);
        due("29 harm at once", y.bring(0, 0, NONE), 2);
        due("29 emptied first", y.bring(0, 0, 0), 3);
        due("29 then brought", y.bring(0, 0, 1), 0);
        // What slid has no strain left: 50 come onto slope 1 then, which bears 65.
        y.force(Texts.law(y, "shakes 0;shakes 1 if word = 0 and slope = 0;shakes 20 if word = 1 and slope = 1"));
        y.put(1, 1, 65);
        y.put(2, 1, 80);
        due("29 strain is gone", y.bring(0, 0, NONE), 2);
        due("29 strain is gone", y.bring(0, 0, 0), 3);
        due("29 strain is gone", y.bring(0, 0, 1), 0);
        y.put(2, 1, 59);
        due("29 harm by the first", y.bring(0, 0, NONE), NONE);
        bringsByDay();
    }

    private static void bringsByDay() {
        WordSlides x = new WordSlides();
        x.word(1, 0, 0);
        x.put(0, 0, 70);
        x.put(0, 1, 100);
        x.put(0, 3, 1);
        x.force(Texts.law(x, "shakes day;bars if day = 31 and loud < 3"));
        x.terms(0, 16);
        x.weather(0, 0);
        due("29 day", x.bring(0, 0, NONE), 2);
        x.terms(0, 10);
        due("29 day", x.bring(0, 0, NONE), NONE);
        x.terms(0, 31);
        due("29 day", x.bring(0, 0, 0), 2);
    }

    private static void threats() {
        WordSlides x = new WordSlides();
        x.put(0, 0, 100);
        x.put(0, 1, 110);
        due("30 no words", x.threat(0, 0, 0), 0);
        due("30 no words", x.threat(0, 0, 1), 0);
        due("30 no words", x.threat(0, 0, 2), NONE);
        x.word(2, 0, 0);
        x.word(4, 0, 0);
        x.word(1, 0, 0);
        x.word(4, 0, 0);
        // By 1, 3, 0, 3: with an even room the second wins.
        due("30 lost", x.threat(0, 0, 0), 0);
        due("30 lost", x.threat(0, 0, 1), 0);
        due("30 lost", x.threat(0, 0, 2), NONE);
        x.put(0, 1, 111);
        due("30 won", x.threat(0, 0, 0), 1);
        due("30 by all that shake", x.threat(0, 0, 1), 3);
        due("30 lowest", x.threat(0, 0, 2), 0);
        x.put(0, 1, 101);
        due("30 by 1 alone", x.threat(0, 0, 1), 1);
        x.put(0, 1, 100);
        due("30 has to make it slide", x.threat(0, 0, 0), 0);
        x.put(0, 1, 99);
        due("30 would slide now", x.threat(0, 0, 0), NONE);
        due("30 would slide now", x.threat(0, 0, 1), NONE);
        due("30 no snow", x.threat(1, 0, 0), NONE);
        due("30 slope", x.threat(6, 0, 0), NONE);
        due("30 slope", x.threat(-1, 0, 0), NONE);
        due("30 place", x.threat(0, 4, 0), NONE);
        due("30 place", x.threat(0, -1, 0), NONE);
        due("30 what", x.threat(0, 0, 3), NONE);
        due("30 what", x.threat(0, 0, -1), NONE);
        x.put(0, 1, 112);
        x.say(0, 0, 0, 1);
        due("30 strain", x.threat(0, 0, 1), 3);
        x.force(Texts.law(x, "bars if word = 0;bars if loud > 1"));
        // Room for 11 and steps of 3: it slides in the fourth turn, which is the second's.
        due("30 barred", x.threat(0, 0, 1), 2);
        due("30 barred", x.threat(0, 0, 2), 1);
        // It alone is looked at: slope 1 slides by any word.
        x.put(1, 0, 900);
        due("30 alone", x.threat(0, 0, 1), 2);
        WordSlides y = new WordSlides();
        y.word(9, 0, 0);
        y.put(5, 0, 1);
        y.put(5, 1, 9999);
        y.put(5, 4, 8);
        // 9,998 steps of 1: who begins says the odd ones, so the 9,999th, by which it slides, is his.
        due("30 long", y.threat(5, 0, 0), 0);
        y.put(5, 1, 9998);
        due("30 long", y.threat(5, 0, 0), 1);
        due("30 other place", y.threat(5, 1, 0), 1);
    }

    private static void seens() {
        WordSlides x = new WordSlides();
        due("32 none", x.forget(), 0);
        due("31 slope", x.seen(6, 1, 0), -1);
        due("31 slope", x.seen(-1, 1, 0), -1);
        due("31 sum", x.seen(0, 0, 0), -1);
        due("31 sum", x.seen(0, 10000, 0), -1);
        due("31 slid", x.seen(0, 1, 2), -1);
        due("31 slid", x.seen(0, 1, -1), -1);
        due("33 all", x.holds(0, 0), 1);
        due("33 all", x.holds(0, 1), 9999);
        due("33 all", x.holds(0, 2), 9999);
        // 9,999 of them: 4,999 below 5,000, 5,000 not.
        due("33 try", x.holds(0, 3), 5000);
        due("31 seen", x.seen(0, 10, 0), 1);
        due("31 seen", x.seen(0, 13, 1), 2);
        due("31 another", x.seen(1, 11, 1), 3);
        // 10, 11, 12.
        due("33 least", x.holds(0, 0), 10);
        due("33 greatest", x.holds(0, 1), 12);
        due("33 how many", x.holds(0, 2), 3);
        due("33 try", x.holds(0, 3), 11);
        due("31 seen", x.seen(0, 12, 1), 4);
        due("33 try", x.holds(0, 3), 11);
        due("31 seen", x.seen(0, 11, 0), 5);
        due("33 just one", x.holds(0, 0), 11);
        due("33 just one", x.holds(0, 1), 11);
        due("33 just one", x.holds(0, 2), 1);
        due("33 just one", x.holds(0, 3), NONE);
        due("31 seen", x.seen(0, 11, 1), 6);
        due("33 none", x.holds(0, 0), NONE);
        due("33 none", x.holds(0, 1), NONE);
        due("33 none", x.holds(0, 2), 0);
        due("33 none", x.holds(0, 3), NONE);
        due("33 another", x.holds(1, 1), 10);
        due("33 slope", x.holds(6, 0), NONE);
        due("33 slope", x.holds(-1, 2), NONE);
        due("33 what", x.holds(0, 4), NONE);
        due("33 what", x.holds(0, -1), NONE);
        due("31 seen", x.seen(2, 1, 1), 7);
        due("33 below 1", x.holds(2, 2), 0);
        due("31 seen", x.seen(3, 9999, 0), 8);
        due("33 9,999", x.holds(3, 0), 9999);
        due("31 seen", x.seen(3, 1, 0), 9);
        due("31 seen", x.seen(3, 1, 0), 10);
        due("31 full", x.seen(3, 1, 0), -5);
        due("31 wrong before full", x.seen(3, 0, 0), -1);
        due("39 seen", x.count(3), 10);
        due("32 forget", x.forget(), 10);
        due("39 seen", x.count(3), 0);
        due("33 all", x.holds(0, 2), 9999);
        due("33 hold itself stays", x.of(0, 1), 500);
    }

    private static void signs() {
        WordSlides x = new WordSlides();
        for (int i = 0; i < 16; i++) {
            x.word(1, 0, 0);
        }
        due("34 none", x.signs(), 0);
        x.often(7, 99);
        due("34 one", x.signs(), 99);
        x.often(3, 1);
        due("34 two", x.signs(), 100);
        x.often(7, 4);
        x.often(2, 2);
        x.often(1, 3);
        // 1 + 2 = 3, 3 + 3 = 6, 6 + 4 = 10.
        due("34 four", x.signs(), 19);
        for (int i = 0; i < 16; i++) {
            x.often(i, 5);
        }
        due("34 all alike", x.signs(), 16 * 4 * 5);
        due("34 kept", x.at(7, 3), 5);
    }

    private static void winters() {
        WordSlides x = new WordSlides();
        due("35 seed", x.winter(-1, 1), -1);
        due("35 seed", x.winter(1000001, 1), -1);
        due("35 n", x.winter(0, 0), -1);
        due("35 n", x.winter(0, 101), -1);
        due("36 none yet", x.drawn(0, 0), NONE);
        due("35 no words", x.winter(0, 100), 3060);
        // 50 days bring 500, the 51st brings 510, more than HOLD: into the village; then 49 days.
        due("36 snow", x.drawn(5, 0), 490);
        due("36 slid", x.drawn(5, 1), 1);
        due("36 slope", x.drawn(6, 0), NONE);
        due("36 slope", x.drawn(-1, 0), NONE);
        due("36 what", x.drawn(0, 2), NONE);
        due("36 what", x.drawn(0, -1), NONE);
        due("35 on paper", x.count(15), 0);
        due("35 on paper", x.count(13), 0);
        due("35 refused", x.winter(0, 0), -1);
        due("36 latest stays", x.drawn(0, 0), 490);
        x.put(0, 0, 17);
        due("36 latest stays", x.drawn(0, 0), 490);
        // s is 0, then 12,345 for the word, second() for the place, third() for LOUD.
        WordSlides y = new WordSlides();
        y.word(1, 0, 0);
        y.word(2, 0, 0);
        y.force(Texts.law(y, "shakes 1000;bars if not (word = W and place = P and loud = L)"
            .replace("W", "" + 12345 % 2).replace("P", "" + second() % 4).replace("L", "" + (third() % 3 + 1))));
        y.put(0, 0, 5);
        due("35 drawn", y.winter(0, 1), 5);
        due("36 slid", y.drawn(0, 1), 1);
        due("36 snow", y.drawn(0, 0), 10);
        y.terms(0, 999);
        due("35 last day", y.winter(0, 100), 5);
        due("36 last day", y.drawn(0, 0), 0);
        due("36 last day", y.drawn(1, 0), 0);
        y.say(0, 1, 0, 1);
        due("35 last seed", y.winter(1000000, 1) >= 0 ? 1 : 0, 1);
    }

    private static int second() {
        return (int) ((12345L * 1103 + 12345) % 1000003);
    }

    private static int third() {
        return (int) (((long) second() * 1103 + 12345) % 1000003);
    }

    private static void imagesAndBack() {
        WordSlides x = new WordSlides();
        due("37 k", x.image(2), -1);
        due("37 k", x.image(-1), -1);
        due("38 k", x.back(2), -1);
        due("38 k", x.back(-1), -1);
        due("38 not kept", x.back(0), -2);
        x.word(5, 1, 2);
        x.often(0, 9);
        x.put(0, 0, 498);
        x.put(0, 2, 4);
        x.put(1, 3, 1);
        x.put(1, 7, 6);
        x.terms(1, 3);
        x.mean(6);
        x.talk(0, 2, 3);
        x.seen(3, 77, 1);
        Texts.law(x, "falls 1");
        x.force(0);
        x.dawn();
        x.say(3, 0, 0, 1);
        x.winter(4, 3);
        due("37 image", x.image(1), 0);
        int slid = x.of(0, 9);
        int wintered = x.drawn(4, 0);
        due("37 slid", slid, 1);
        due("37 undo stays", x.count(5), 2);
        x.word(1, 1, 1);
        x.often(0, 1);
        x.put(0, 0, 3);
        x.put(0, 2, NONE);
        x.put(1, 3, 0);
        x.put(1, 7, 0);
        x.put(2, 1, 9);
        x.terms(0, 500);
        x.terms(1, 0);
        x.hush();
        x.cancel();
        x.talk(0, 0, 1);
        x.talk(0, 0, 1);
        x.forget();
        Texts.law(x, "falls 2");
        x.force(1);
        x.say(1, 0, 0, 3);
        due("38 other", x.back(0), -2);
        x.feed(0x01010100, 0, 0, 0, 0);
        due("38 back", x.back(1), 0);
        due("38 status", x.status(), 0);
        due("38 words", x.count(0), 1);
        due("38 often", x.at(0, 3), 9);
        due("38 snow", x.of(1, 0), 1);
        due("38 harm", x.count(13), 500);
        due("38 slid", x.of(0, 9), 1);
        due("38 share", x.share(0, 3, 0), 1);
        due("38 below", x.of(0, 2), 4);
        due("38 gorge", x.of(1, 3), 1);
        due("38 far", x.of(1, 7), 6);
        due("38 hold", x.of(2, 1), 500);
        due("38 strain", x.of(1, 8), 4);
        due("38 day", x.count(15), 1);
        due("38 mood", x.count(16), 3);
        due("38 meanings", x.count(1), 1);
        due("38 talks", x.count(2), 1);
        due("38 talk", x.plan(1, 0), 0);
        due("38 seen", x.holds(3, 1), 76);
        due("38 laws", x.count(4), 1);
        due("38 force", x.count(12), 0);
        due("38 nothing to undo", x.undo(), -3);
        due("38 tape stays", x.count(6), 20);
        due("38 winter stays", x.drawn(4, 0), wintered);
        x.end(0);
        due("38 another law", Texts.law(x, "falls 7"), 1);
        x.force(1);
        due("38 another law", x.weather(0, 0), 7);
        due("38 images stay", x.back(1), 0);
        due("38 by law", x.weather(0, 0), 1);
        due("38 no such law", x.force(1), -2);
        due("37 anew", x.image(1), 0);
        due("37 another", x.image(0), 0);
        x.put(0, 0, 9);
        due("38 back", x.back(0), 0);
        due("38 snow", x.of(0, 0), 0);
        due("39 refusals are not kept", x.count(8), 3);
        keptAside();
        betweenImages();
    }

    /** Laws and lists of one image are not those of the other, though their numbers are. */
    private static void betweenImages() {
        WordSlides x = new WordSlides();
        x.word(2, 0, 0);
        x.word(9, 0, 0);
        x.image(1);
        Texts.law(x, "falls 21");
        x.force(0);
        x.mean(1);
        x.talk(0, 2, 1);
        x.seen(1, 30, 1);
        x.image(0);
        x.back(1);
        Texts.law(x, "falls 22");
        x.force(0);
        x.mean(0);
        x.talk(1, 3, 3);
        x.seen(2, 40, 0);
        x.image(1);
        x.put(0, 0, 20);
        x.put(0, 1, 22);
        due("38 talk", x.plan(1, NONE), NONE);
        due("38 saying", x.saying(0, 1, 1), 1);
        due("38 back", x.back(0), 0);
        due("38 law", x.weather(0, 0), 21);
        due("38 saying", x.saying(0, 1, 1), 0);
        due("38 seen", x.holds(1, 1), 29);
        due("38 seen", x.holds(2, 0), 1);
        x.put(0, 0, 20);
        x.put(0, 1, 21);
        due("38 talk, 1 by word 0", x.plan(1, NONE), 1);
        due("38 back", x.back(1), 0);
        due("38 law", x.weather(0, 0), 22);
        due("38 saying", x.saying(0, 1, 2), 0);
        due("38 seen", x.holds(1, 1), 9999);
        due("38 seen", x.holds(2, 0), 40);
    }

    private static void keptAside() {
        WordSlides x = new WordSlides();
        x.word(1, 0, 0);
        x.image(0);
        x.feed(0x00000001, 0, 0, 0, 0);
        x.end(5);
        x.row();
        Texts.told(x, "dawn;say 3 at 0 loud 1");
        Texts.law(x, "falls x");
        x.winter(1, 1);
        x.back(0);
        due("38 murmur stays", x.murmur(), 2);
        due("38 fault stays", x.fault(), 6);
        due("38 stopped stays", x.stopped(), 1);
        due("38 winter stays", x.drawn(0, 0), 10);
        due("38 count", x.count(11), 1);
        due("38 count", x.count(9), 1);
    }

    private static void counts() {
        WordSlides x = new WordSlides();
        due("39 others", x.count(-1), NONE);
        due("39 others", x.count(17), NONE);
        x.word(0, 0, 0);
        x.often(0, 0);
        x.undo();
        x.row();
        for (int i = 0; i < 6; i++) {
            x.mean(0);
        }
        x.force(3);
        x.law();
        due("39 -1", x.count(7), 1);
        due("39 -2", x.count(8), 2);
        due("39 -3", x.count(9), 1);
        due("39 -5", x.count(10), 1);
        due("39 -6", x.count(11), 2);
        // NONE of a call that only tells is no refusal.
        x.of(9, 9);
        x.at(9, 9);
        x.end(1);
        x.asks(9, 9, 9, 9, 9);
        x.weather(9, 9);
        x.share(9, 9, 9);
        x.saying(9, 9, 9);
        x.plan(9, 9);
        x.bring(9, 9, 9);
        x.threat(9, 9, 9);
        x.holds(9, 9);
        x.drawn(9, 9);
        x.count(99);
        due("39 -1", x.count(7), 1);
        due("39 -6", x.count(11), 2);
        x.word(9, 0, 0);
        x.put(0, 0, 600);
        x.put(1, 0, 700);
        x.put(1, 3, 1);
        x.say(0, 0, 0, 1);
        due("39 harm", x.count(13), 600);
        due("39 down", x.count(14), 700);
        due("39 undo", x.count(5), 1);
    }

    private static void statuses() {
        WordSlides x = new WordSlides();
        due("40 put", x.put(9, 0, 0) * 0 + x.status(), -1);
        due("40 put", x.put(0, 0, 0) + x.status(), 0);
        due("40 word", x.word(0, 0, 0) * 0 + x.status(), -1);
        due("40 word", x.word(1, 0, 0) + x.status(), 0);
        due("40 often", x.often(5, 0) * 0 + x.status(), -2);
        due("40 often", x.often(0, 0) + x.status(), 0);
        due("40 terms", x.terms(5, 0) * 0 + x.status(), -1);
        due("40 terms", x.terms(0, 0) + x.status(), 0);
        due("40 row", x.row() * 0 + x.status(), -6);
        due("40 force", x.force(NONE) * 0 + x.status(), 0);
        due("40 law", x.law() * 0 + x.status(), -6);
        due("40 law", Texts.law(x, "bars if loud = 3") + x.status(), 0);
        due("40 told", x.told() * 0 + x.status(), -6);
        due("40 told", Texts.told(x, "say 3 at 0 loud 1") * 0 + x.status(), -3);
        due("40 told", Texts.told(x, "dawn if 1 = 2") + x.status(), 0);
        due("40 force", x.force(5) * 0 + x.status(), -2);
        x.force(0);
        due("40 say", x.say(0, 0, 0, 3) * 0 + x.status(), -3);
        due("40 say", x.say(0, 0, 0, 1) + x.status(), 0);
        due("40 undo", x.undo() + x.status(), 0);
        due("40 undo", x.undo() * 0 + x.status(), -3);
        due("40 dawn", x.dawn() + x.status(), 0);
        due("40 mean", x.mean(9) * 0 + x.status(), -1);
        due("40 mean", x.mean(0) * 0 + x.status(), 0);
        due("40 talk", x.talk(9, 0, 1) * 0 + x.status(), -2);
        due("40 talk", x.talk(0, 0, 1) + x.status(), 0);
        due("40 seen", x.seen(9, 1, 0) * 0 + x.status(), -1);
        due("40 seen", x.seen(0, 1, 0) * 0 + x.status(), 0);
        due("40 winter", x.winter(0, 0) * 0 + x.status(), -1);
        due("40 winter", x.winter(0, 1) * 0 + x.status(), 0);
        due("40 image", x.image(9) * 0 + x.status(), -1);
        due("40 image", x.image(0) + x.status(), 0);
        due("40 back", x.back(1) * 0 + x.status(), -2);
        // These leave it as it is.
        x.of(9, 9);
        x.at(9, 9);
        x.feed(0, 0, 0, 0, 0);
        x.end(0);
        x.murmur();
        x.fault();
        x.stopped();
        x.asks(0, 0, 1, 0, 0);
        x.weather(0, 0);
        x.share(0, 0, 0);
        x.hush();
        x.saying(0, 1, 0);
        x.cancel();
        x.plan(1, NONE);
        x.bring(0, 0, 0);
        x.threat(0, 0, 0);
        x.forget();
        x.holds(0, 0);
        x.signs();
        x.drawn(0, 0);
        x.count(0);
        due("40 others", x.status(), -2);
        due("40 back", x.back(0) + x.status(), 0);
        x.terms(0, 999);
        due("40 dawn", x.dawn() * 0 + x.status(), -3);
        x.feed(0x01000000, 0, 0, 0, 0);
        x.end(3);
        due("40 row", x.row() * 0 + x.status(), 0);
    }
}
