import java.util.Map;
import java.util.function.Supplier;

/** The edges that "Terms" II names: of tokens, limits, FAULTS, BROKEN sums, and of talks that are run wholly or not at all. */
public final class TextEdgesTest {
    private static final Checks C = new Checks("TextEdgesTest");
    private static final Edge E = new Edge(C);
    private static final int NONE = WordSlides.NONE;
    private static final String GOOD_LAW =
        "shakes [ long * loud - far ] / 2 % 7 if not ( r > 1 and snow < 9 ) or word = place ; bars if slope + mood = day ; thaws 3";
    private static final String GOOD_TALKS =
        "say words - 1 at done % 4 loud 1 + slid times 3 if not ( snow 0 < 5 or strain 5 > harm ) and day = 7 ; dawn times 2 ; dawn if [ 1 ] = 2";

    public static void main(String[] args) {
        faultAtEachToken();
        faultAtEachEnd();
        blanksAlone();
        tokensAreLongestRows();
        fourHundredTokens();
        oneTextBehindTheOther();
        twelveClauses();
        fiftyParts();
        partsOfNamesInTalks();
        eightBrackets();
        numbersToThousand();
        timesAndSlopes();
        faultOfTheLatestRead();
        theTapeIsEmptyThen();
        beyondOneThousandMillion();
        dividedByNought();
        andOrAskWhatMatters();
        shakesBetween();
        fallsAndThawsBetween();
        theLastThatHolds();
        noClauseWithoutForce();
        tellsOfNothing();
        toldWhollyOrNotAtAll();
        toldStoppedAt();
        toldAsksEachTime();
        toldCountsInThisText();
        toldAtTheLastDay();
        C.finish();
    }

    private static void fault(boolean law, String text, int place) {
        WordSlides x = new WordSlides();
        int got = law ? Texts.law(x, text) : Texts.told(x, text);
        C.due((law ? "12 " : "13 ") + text, got == -6 ? -6 : 0, place == NONE ? 0 : -6);
        C.due("14 fault of " + text, x.fault(), place);
    }

    /** A token that is of neither language is the FAULT wherever it stands. */
    private static void faultAtEachToken() {
        for (String text : new String[] {GOOD_LAW, GOOD_TALKS}) {
            boolean law = text == GOOD_LAW;
            fault(law, text, NONE);
            String[] tokens = text.split(" ");
            int place = 0;
            for (String each : tokens) {
                for (String wrong : new String[] {"x", "?", "A", "" + (char) 200, "1001"}) {
                    fault(law, text.substring(0, place) + wrong + text.substring(place + each.length()), place);
                }
                place += each.length() + 1;
            }
        }
    }

    /** What ends within a CLAUSE has its FAULT at the end, blanks counted. */
    private static void faultAtEachEnd() {
        String[] law = {"shakes", "shakes [", "shakes [ long", "shakes long *", "shakes long if", "shakes long if not",
            "shakes long if (", "shakes long if r", "shakes long if r >", "shakes long if ( r > 1", "shakes long if r > 1 or",
            "shakes long if r > 1 and", "bars if", "bars ;", "falls", "thaws"};
        String[] talks = {"say", "say words", "say words -", "say words at", "say words at 1", "say words at 1 loud",
            "say 0 at 1 loud 1 times", "say 0 at 1 loud 1 if", "dawn times", "dawn if", "dawn if snow", "dawn if strain", "dawn ;"};
        for (String each : law) {
            fault(true, each, each.length());
            fault(true, each + "   ", each.length() + 3);
        }
        for (String each : talks) {
            fault(false, each, each.length());
            fault(false, each + " ", each.length() + 1);
        }
    }

    private static WordSlides withTape(String text) {
        WordSlides x = Valleys.busy();
        x.end(0);
        Texts.feed(x, text);
        return x;
    }

    private static void blanksAlone() {
        for (int n : new int[] {0, 1, 7, 400}) {
            String text = " ".repeat(n);
            E.refused("12 " + n + " blanks", -6, () -> withTape(text), WordSlides::law, "tape", "fault");
            E.refused("13 " + n + " blanks", -6, () -> withTape(text), WordSlides::told, "tape", "fault", "stopped");
            fault(true, text, n);
            fault(false, text, n);
        }
    }

    private static void tokensAreLongestRows() {
        fault(true, "thaws3if1<2and2>1or3=3", NONE);
        fault(true, "thaws 3if 1<2andnot 2>1", 13);
        fault(true, "thaws 3 i f", 8);
        fault(true, "thaws 1 2", 8);
        fault(true, "bars if 1 < = 2", 12);
        fault(false, "dawn;dawn times20if snow0>1", NONE);
        fault(false, "dawndawn", 0);
        for (int other : new int[] {0, 9, 10, 13, 31, 127, 128, 160, 255, '`', '{', '@', 'Z', '/' , ':'}) {
            fault(true, "bars" + (char) other, 4);
            fault(true, (char) other + "bars", 0);
        }
    }

    private static void fourHundredTokens() {
        for (boolean law : new boolean[] {true, false}) {
            fault(law, "?".repeat(400), 0);
            fault(law, ";".repeat(400), 0);
            fault(law, (law ? "bars" : "dawn") + ";".repeat(396), 5);
            fault(law, (law ? "bars if" : "dawn if") + "(".repeat(393), 15);
            fault(law, (law ? "bars if " : "dawn if ") + "1".repeat(392), 8);
        }
        fault(true, "bars if " + "not ".repeat(97) + "1=1 ", NONE);
        fault(true, "bars if " + "not ".repeat(98), 400);
        WordSlides x = Valleys.withWords(1);
        x.force(Texts.law(x, "bars if " + "not ".repeat(97) + "1=1"));
        C.due("17 97 times not", x.asks(0, 0, 1, 0, 1), 0);
        x.force(Texts.law(x, "bars if " + "not ".repeat(96) + "1=1"));
        C.due("17 96 times not", x.asks(0, 0, 1, 0, 1), 1);
    }

    /** Nothing of a text is left for the next one: open brackets, PARTS, CLAUSES, what was read. */
    private static void oneTextBehindTheOther() {
        WordSlides x = Valleys.withWords(1);
        String eight = "[".repeat(8) + "7" + "]".repeat(8);
        for (int i = 0; i < 20; i++) {
            C.due("12 within eight brackets", Texts.law(x, "falls " + "[".repeat(8) + "?"), -6);
            C.due("12 fifty PARTS, and one", Texts.law(x, "falls 1" + "+1".repeat(50)), -6);
            C.due("13 twelve CLAUSES, and one", Texts.told(x, "dawn;".repeat(12) + "dawn"), -6);
        }
        C.due("12 eight brackets", Texts.law(x, "falls " + eight), 0);
        C.due("12 fifty PARTS", Texts.law(x, "falls 1" + "+1".repeat(49)), 1);
        C.due("13 twelve CLAUSES", Texts.told(x, "dawn;".repeat(11) + "dawn"), 12);
        x.force(0);
        C.due("18 the first LAW", x.weather(0, 0), 7);
        x.force(1);
        C.due("18 the second", x.weather(0, 0), 50);
    }

    private static void twelveClauses() {
        for (boolean law : new boolean[] {true, false}) {
            String each = law ? "bars" : "dawn";
            String eleven = (each + ";").repeat(11);
            fault(law, eleven + each, NONE);
            fault(law, eleven + each + " ;", 61);
            fault(law, eleven + each + "; " + each, 61);
            fault(law, eleven + each + ";  ?", 62);
            fault(law, eleven + each + " " + each, 60);
            fault(law, eleven + each + "; " + each + "; " + each, 61);
        }
        WordSlides x = new WordSlides();
        x.force(Texts.law(x, "falls 1;falls 2;falls 3;falls 4;falls 5;falls 6;falls 7;falls 8;falls 9;falls 10;falls 11;falls 12"));
        C.due("12 the twelfth counts", x.weather(0, 0), 12);
        C.due("13 the twelfth is run", Texts.told(x, "dawn;".repeat(11) + "dawn"), 12);
    }

    private static void fiftyParts() {
        String fifty = "falls r" + "+1".repeat(49);
        fault(true, fifty, NONE);
        fault(true, fifty + "+1", fifty.length() + 1);
        fault(true, fifty + "*r", fifty.length() + 1);
        fault(true, fifty + "+[1]", fifty.length() + 2);
        fault(true, fifty + ";bars", NONE);
        fault(true, fifty + ";thaws 2", fifty.length() + 7);
        fault(true, fifty + " if 1=1", fifty.length() + 4);
        fault(true, fifty + " if", fifty.length() + 3);
        fault(true, fifty + ";falls", fifty.length() + 6);
        fault(true, "falls 1;".repeat(11) + "falls 1" + "+1".repeat(38), NONE);
        fault(true, "falls 1;".repeat(11) + "falls 1" + "+1".repeat(39), 8 * 11 + 7 + 2 * 39 - 1);
        WordSlides x = new WordSlides();
        x.force(Texts.law(x, fifty));
        C.due("12 all fifty count", x.weather(0, 0), 48);
    }

    private static void partsOfNamesInTalks() {
        // A number of a SLOPE, TIMES are no PARTS, whatever stands in them.
        String head = "dawn times 20 if snow 0";
        String fifty = head + "+snow 5".repeat(24) + "<strain 0" + "+harm".repeat(24);
        fault(false, fifty, NONE);
        fault(false, fifty + "+1", fifty.length() + 1);
        fault(false, fifty + "+snow 1", fifty.length() + 1);
        fault(false, fifty + ";dawn times 20", NONE);
        fault(false, fifty + ";say 0", fifty.length() + 5);
        String three = "say 1 at 1 loud 1;";
        fault(false, three.repeat(11) + "say 1" + "+1".repeat(14) + " at 1 loud 1", NONE);
        fault(false, three.repeat(11) + "say 1" + "+1".repeat(15) + " at 1 loud 1", 11 * 18 + 5 + 30 + 11);
    }

    private static void eightBrackets() {
        for (int sums = 0; sums <= 9; sums++) {
            int tests = 9 - sums;
            String open = "(".repeat(tests) + "[".repeat(sums);
            String text = "bars if " + open + "1" + "]".repeat(sums) + "=1" + ")".repeat(tests);
            fault(true, text, 16);
            fault(false, "dawn if " + open + "1" + "]".repeat(sums) + "=1" + ")".repeat(tests), 16);
        }
        for (int sums = 0; sums <= 8; sums++) {
            int tests = 8 - sums;
            fault(true, "bars if " + "(".repeat(tests) + "[".repeat(sums) + "1" + "]".repeat(sums) + "=1" + ")".repeat(tests), NONE);
        }
        // Beside one another they may be more, in one CLAUSE and in the next.
        String eight = "[".repeat(8) + "1" + "]".repeat(8);
        fault(true, "falls " + eight + "+" + eight + ";thaws " + eight + ";bars if " + eight + "=" + eight, NONE);
        fault(true, "falls " + eight + "+[" + eight + "]", 6 + 17 + 1 + 1 + 7);
        fault(true, "falls " + eight + ";thaws [" + eight + "]", 6 + 17 + 7 + 1 + 7);
        fault(true, "bars if " + "not (".repeat(8) + "1=1" + ")".repeat(8), NONE);
        fault(true, "bars if " + "not (".repeat(9) + "1=1" + ")".repeat(9), 8 + 8 * 5 + 4);
    }

    private static void numbersToThousand() {
        fault(true, "falls 1000", NONE);
        fault(true, "falls 1001", 6);
        fault(true, "falls 0", NONE);
        fault(true, "falls 00000000000000001000", NONE);
        fault(true, "falls 2147483648", 6);
        fault(true, "falls 4294967296", 6);
        fault(true, "falls 18446744073709551616", 6);
        fault(true, "falls " + "9".repeat(394), 6);
        fault(false, "dawn if 1000 = 1", NONE);
        fault(false, "dawn if 1001 = 1", 8);
        WordSlides x = new WordSlides();
        x.word(1, 0, 0);
        x.force(Texts.law(x, "shakes 1000 - 999;shakes 1000 / 2 if slope = 1"));
        C.due("17 1,000 is read as such", x.asks(0, 0, 1, 0, 0), 1);
        C.due("17 1,000 is read as such", x.asks(0, 0, 1, 1, 0), 500);
    }

    private static void timesAndSlopes() {
        int[] times = {1, 20, 0, 21, 1000, 1001};
        for (int i = 0; i < times.length; i++) {
            fault(false, "dawn times " + times[i], i < 2 ? NONE : 11);
            fault(false, "say 0 at 0 loud 1 times " + times[i] + " if 1=2", i < 2 ? NONE : 24);
        }
        for (String name : new String[] {"snow ", "strain "}) {
            for (int slope : new int[] {0, 5, 6, 7, 1000, 1001}) {
                fault(false, "dawn if " + name + slope + " = 1", slope < 6 ? NONE : 8 + name.length());
            }
            fault(false, "dawn if " + name + "= 1", 8 + name.length());
            fault(false, "dawn if " + name + "day = 1", 8 + name.length());
        }
        fault(true, "bars if snow 0 = 1", 13);
        fault(true, "bars times 1", 5);
        WordSlides x = new WordSlides();
        C.due("13 20 times", Texts.told(x, "dawn times 20"), 20);
        C.due("13 once", Texts.told(x, "dawn times 1"), 1);
        C.due("13 once without", Texts.told(x, "dawn"), 1);
        C.due("39 DAY", x.count(15), 22);
    }

    private static void faultOfTheLatestRead() {
        WordSlides x = new WordSlides();
        C.due("14 ahead of any", x.fault(), NONE);
        Texts.law(x, "falls");
        C.due("14 of law()", x.fault(), 5);
        Texts.told(x, "dawn dawn dawn");
        C.due("14 of told()", x.fault(), 5);
        Texts.told(x, "say 3 at 0 loud 1");
        C.due("14 none, though one can't be", x.fault(), NONE);
        Texts.told(x, "x");
        C.due("14 at the beginning", x.fault(), 0);
        Texts.law(x, "falls 1");
        C.due("14 none", x.fault(), NONE);
        C.due("12 its number counts good ones alone", Texts.law(x, "falls 2"), 1);
    }

    private static void theTapeIsEmptyThen() {
        String[] texts = {"bars", "bars bars", "", "  ", "dawn", "say 9 at 0 loud 1"};
        for (String each : texts) {
            WordSlides x = withTape(each);
            x.law();
            C.due("12 the TAPE behind " + each, x.count(6), 0);
            WordSlides y = withTape(each);
            y.told();
            C.due("13 the TAPE behind " + each, y.count(6), 0);
        }
    }

    /** What falls by a sum, 10, if it is BROKEN. */
    private static int falls(String sum) {
        WordSlides x = new WordSlides();
        x.force(Texts.law(x, "falls " + sum));
        return x.fault() == NONE ? x.weather(0, 0) : -99;
    }

    private static void beyondOneThousandMillion() {
        String most = "1000 * 1000 * 1000";
        C.due("18 1,000,000,000", falls(most), 99);
        C.due("18 and 0", falls(most + " + 0"), 99);
        C.due("18 and 1", falls(most + " + 1"), 10);
        C.due("18 the lower end", falls("5 - " + most + " + " + most), 5);
        C.due("18 the lower end", falls("0 - " + most), 0);
        C.due("18 below it", falls("0 - " + most + " - 1"), 10);
        C.due("18 below it, and back", falls("0 - " + most + " - 1 + 2"), 10);
        C.due("18 beyond it, and back", falls(most + " + 1 - " + most), 10);
        C.due("18 by a product", falls("[1000 * 1000 + 1] * 1000"), 10);
        C.due("18 by a product below 0", falls("[0 - 1000 * 1000 - 1] * 1000"), 10);
        // Past what an int, what a long can hold.
        C.due("18 past an int", falls("[" + most + "] * 5 - [" + most + "] * 4"), 10);
        C.due("18 past an int, wrapped", falls("1000 * 1000 * 1000 * 1000"), 10);
        C.due("18 past a long", falls("[" + most + "] * [" + most + "] * [" + most + "]"), 10);
        C.due("18 all of it within brackets", falls("7 - [1 - 1] * [" + most + " + 1]"), 10);
    }

    private static void dividedByNought() {
        C.due("18 / 0", falls("1 / 0"), 10);
        C.due("18 % 0", falls("1 % 0"), 10);
        C.due("18 0 / 0", falls("0 / [2 - 2]"), 10);
        C.due("18 0 / 1", falls("0 / 1"), 0);
        C.due("18 / cut towards 0", falls("50 + [0 - 9] / 2"), 46);
        C.due("18 / cut towards 0", falls("50 + 9 / [0 - 2]"), 46);
        C.due("18 / cut towards 0", falls("50 + [0 - 1] / 2"), 50);
        C.due("18 % what is left then", falls("50 + [0 - 9] % 2"), 49);
        C.due("18 % what is left then", falls("50 + 9 % [0 - 2]"), 51);
        C.due("18 % of the same", falls("50 + 9 % 9"), 50);
        C.due("18 by -1", falls("50 + [0 - 9] / [0 - 1]"), 59);
    }

    /** Whether a WORD is BARRED by a test. */
    private static int so(String test) {
        WordSlides x = Valleys.withWords(1);
        x.force(Texts.law(x, "bars if " + test));
        return x.fault() == NONE ? x.asks(0, 0, 1, 0, 1) : -99;
    }

    private static void andOrAskWhatMatters() {
        String yes = "1=1";
        String no = "1=2";
        String broken = "1/0=1";
        String far = "1000*1000*1000+1>0";
        C.due("17 so", so(yes), 1);
        C.due("17 not so", so(no), 0);
        for (String bad : new String[] {broken, far}) {
            C.due("17 BROKEN", so(bad), 0);
            C.due("17 not BROKEN", so("not " + bad), 0);
            C.due("17 or, not asked", so(yes + " or " + bad), 1);
            C.due("17 or, asked", so(no + " or " + bad), 0);
            C.due("17 or, asked", so(no + " or not " + bad), 0);
            C.due("17 or, first", so(bad + " or " + yes), 0);
            C.due("17 and, not asked", so("not (" + no + " and " + bad + ")"), 1);
            C.due("17 and, asked", so(yes + " and " + bad), 0);
            C.due("17 and, asked", so("not (" + yes + " and " + bad + ")"), 0);
            C.due("17 and, first", so("not (" + bad + " and " + no + ")"), 0);
            C.due("17 or behind and", so(no + " and " + bad + " or " + yes), 1);
            C.due("17 or behind and, BROKEN", so(yes + " and " + bad + " or " + yes), 0);
            C.due("17 all behind or", so(yes + " or " + bad + " and " + bad + " or " + bad), 1);
        }
        C.due("17 < at the edge", so("5<5"), 0);
        C.due("17 < below", so("4<5"), 1);
        C.due("17 > at the edge", so("5>5"), 0);
        C.due("17 > above", so("6>5"), 1);
        C.due("17 = of numbers below 0", so("0-1=1-2"), 1);
        // What is not so is turned, and stops an "and", whichever sign tells it; what is so stops an "or".
        for (String wrong : new String[] {"5<5", "5>5", "5=4", "not 4<5", "not 6>5", "not 5=5"}) {
            C.due("17 not " + wrong, so("not " + wrong), 1);
            C.due("17 not not " + wrong, so("not not " + wrong), 0);
            C.due("17 and behind " + wrong, so("not (" + wrong + " and " + broken + ")"), 1);
            C.due("17 or behind not " + wrong, so("not " + wrong + " or " + broken), 1);
            C.due("17 or behind " + wrong, so(wrong + " or 1=1"), 1);
            C.due("17 and behind not " + wrong, so("not " + wrong + " and 1=1"), 1);
        }
    }

    private static int shake(String sum) {
        WordSlides x = Valleys.withWords(1);
        x.force(Texts.law(x, "shakes " + sum));
        return x.asks(0, 0, 3, 0, 0);
    }

    private static void shakesBetween() {
        C.due("17 999", shake("999"), 999);
        C.due("17 1,000, the nearest", shake("1000"), 999);
        C.due("17 far above", shake("1000*1000*1000"), 999);
        C.due("17 0", shake("0"), 0);
        C.due("17 -1, the nearest", shake("0-1"), 0);
        C.due("17 far below", shake("0-1000*1000*1000"), 0);
        // LONG 1, LOUD 3, FAR 1: 2 without.
        C.due("17 BROKEN, so without", shake("1/0"), 2);
        WordSlides x = new WordSlides();
        x.word(3, 0, 0);
        x.put(0, 4, 9);
        C.due("17 LONG times LOUD is FAR", x.asks(0, 0, 3, 0, 0), 0);
        C.due("17 0 at least", x.asks(0, 0, 2, 0, 0), 0);
        x.put(0, 4, 8);
        C.due("17 1 more than FAR", x.asks(0, 0, 3, 0, 0), 1);
        x.word(9, 0, 0);
        x.put(0, 4, 0);
        C.due("17 the most without", x.asks(1, 0, 3, 0, 0), 27);
    }

    private static void fallsAndThawsBetween() {
        for (int what = 0; what < 2; what++) {
            String name = what == 0 ? "falls " : "thaws ";
            int[][] due = {{99, 99}, {100, 99}, {1000, 99}, {0, 0}};
            for (int[] each : due) {
                WordSlides x = new WordSlides();
                x.force(Texts.law(x, name + each[0]));
                C.due("18 " + name + each[0], x.weather(5, what), each[1]);
                C.due("18 the other without", x.weather(5, 1 - what), what == 0 ? 0 : 10);
            }
            WordSlides y = new WordSlides();
            y.force(Texts.law(y, name + "0-1;" + name + "7 % 0"));
            C.due("18 -1, the nearest", y.weather(5, what), 0);
            y.force(Texts.law(y, name + "7 % 0"));
            C.due("18 BROKEN, so without", y.weather(5, what), what == 0 ? 10 : 0);
        }
    }

    private static void theLastThatHolds() {
        C.due("18 the last", falls("1;falls 2;falls 3"), 3);
        C.due("18 the last that is so", falls("1;falls 2;falls 3 if 1=2"), 2);
        C.due("18 the last with a test that is not BROKEN", falls("1;falls 2;falls 3 if 1/0=1"), 2);
        C.due("18 the last with a sum that is not BROKEN", falls("1;falls 2;falls 3/0"), 2);
        C.due("18 none that holds", falls("1/0;falls 2 if 1=2;falls 3%0 if 1=1"), 10);
        C.due("17 one that holds is enough", so("1=1;bars if 1=2"), 1);
        C.due("17 the last alone", so("1=2;bars"), 1);
        C.due("17 none that holds", so("1=2;bars if 1/0=0"), 0);
    }

    private static void noClauseWithoutForce() {
        WordSlides x = Valleys.withWords(5);
        C.due("12 read", Texts.law(x, "shakes 7;falls 7;thaws 7;bars"), 0);
        for (int round = 0; round < 2; round++) {
            C.due("17 by no LAW", x.asks(4, 0, 2, 0, 0), 9);
            C.due("17 by no LAW", x.asks(4, 0, 2, 0, 1), 0);
            C.due("18 by no LAW", x.weather(0, 0), 10);
            C.due("18 by no LAW", x.weather(0, 1), 0);
            C.due("16 none was", x.force(0), NONE);
            C.due("17 by LAW", x.asks(4, 0, 2, 0, 0), 7);
            C.due("17 by LAW", x.asks(4, 0, 2, 0, 1), 1);
            C.due("18 by LAW", x.weather(0, 0), 7);
            C.due("18 by LAW", x.weather(0, 1), 7);
            C.due("16 it was", x.force(NONE), 0);
        }
    }

    /** -1 for what a question is asked without; "day", "mood" there are always. */
    private static void tellsOfNothing() {
        String[] bars = {"far", "slope", "snow"};
        String[] weather = {"word", "long", "r", "loud", "place", "far"};
        for (String each : bars) {
            C.due("17 " + each, so(each + "=0-1"), 1);
        }
        for (String each : new String[] {"word", "place", "day", "mood", "r"}) {
            C.due("17 " + each, so(each + "=0"), 1);
        }
        C.due("17 long, loud", so("long=1 and loud=1"), 1);
        for (String each : weather) {
            C.due("18 " + each, falls("50+" + each), 49);
            WordSlides x = new WordSlides();
            x.force(Texts.law(x, "thaws 50+" + each));
            C.due("18 " + each, x.weather(0, 1), 49);
        }
        C.due("18 slope, snow, day, mood", falls("50+slope+snow+day+mood"), 50);
    }

    private static void toldWhollyOrNotAtAll() {
        String[] stops = {"say 3 at 0 loud 1", "say 0-1 at 0 loud 1", "say 0 at 4 loud 1", "say 0 at 0-1 loud 1", "say 0 at 0 loud 0",
            "say 0 at 0 loud 4", "say 2 at 0 loud 3", "say 1/0 at 0 loud 1", "say 0 at 1%0 loud 1", "say 0 at 0 loud 1/0",
            "say 1000*1000*1000*3 at 0 loud 1", "say 0 at 0 loud 1000*1000*1000*4+1"};
        for (String each : stops) {
            Supplier<WordSlides> made = () -> withTape("say 2 at 0 loud 2 times 5;dawn times 3;" + each);
            E.refused("13 " + each, -3, made, WordSlides::told, "tape", "fault", "stopped");
            WordSlides x = made.get();
            x.told();
            C.due("15 behind two", x.stopped(), 2);
            C.due("14 no FAULT", x.fault(), NONE);
        }
        // The edges of what can be said are said.
        WordSlides y = Valleys.busy();
        y.end(0);
        C.due("13 WORD 2, PLACE 3, LOUD 2", Texts.told(y, "say 2 at 3 loud 2"), 1);
        C.due("13 WORD 0, PLACE 0, LOUD 3", Texts.told(y, "say 0 at 0 loud 3"), 1);
    }

    private static void toldStoppedAt() {
        WordSlides x = Valleys.withWords(1);
        C.due("15 ahead of any", x.stopped(), NONE);
        for (int at = 0; at < 12; at++) {
            StringBuilder text = new StringBuilder();
            for (int i = 0; i < 12; i++) {
                text.append(i == 0 ? "" : ";").append(i < at ? "dawn" : i == at ? "say 1 at 0 loud 1" : "dawn");
            }
            C.due("13 can't be", Texts.told(x, text.toString()), -3);
            C.due("15 CLAUSE", x.stopped(), at);
        }
        C.due("39 no DAY went by", x.count(15), 0);
        C.due("13 goes", Texts.told(x, "dawn"), 1);
        C.due("15 NONE", x.stopped(), NONE);
        Texts.told(x, "dawn;say 1 at 0 loud 1");
        C.due("15 CLAUSE", x.stopped(), 1);
        Texts.law(x, "x");
        C.due("15 law() aside", x.stopped(), 1);
        Texts.told(x, "x");
        C.due("15 of one with a FAULT no CLAUSE", x.stopped(), NONE);
        // In the second of its times.
        C.due("13 can't be again", Texts.told(x, "dawn;say done - 1 at 0 loud 1 times 2"), -3);
        C.due("15 CLAUSE", x.stopped(), 1);
        C.due("39 as it was", x.count(15), 1);
    }

    private static void toldAsksEachTime() {
        WordSlides x = Valleys.withWords(2);
        C.due("13 until it is not so", Texts.told(x, "dawn times 20 if day < 3"), 3);
        C.due("13 a test that comes to be so", Texts.told(x, "dawn if day = 4;dawn times 5 if not day = 4"), 1);
        C.due("13 BROKEN, not run", Texts.told(x, "dawn times 5 if 1 / [day - 4] = 0"), 0);
        C.due("15 not stopped", x.stopped(), NONE);
        C.due("13 BROKEN once", Texts.told(x, "dawn if 1/0=0;dawn;dawn times 2 if 1 / [done - 1] = 1"), 1);
        C.due("13 not run, so its sums are not asked", Texts.told(x, "say 1/0 at 9 loud 9 if 1=2"), 0);
        C.due("13 asked each time: WORD 0, then 1", Texts.told(x, "say done at 0 loud 1 times 2"), 2);
        // WORD 0 shakes by 0, WORD 1 by 1.
        C.due("3 STRAIN", x.of(0, 8), 1);
    }

    private static void toldCountsInThisText() {
        WordSlides x = Valleys.hanging();
        x.put(0, 3, 0);
        x.put(1, 1, 103);
        x.say(0, 0, 0, 1);
        C.due("39 HARM ahead", x.count(13), 100);
        C.due("13 all 0 at its beginning", Texts.told(x, "dawn if done=0 and slid=0 and harm=0"), 1);
        for (int slope = 0; slope < 6; slope++) {
            x.put(slope, 0, 100);
        }
        Map<String, Integer> look = Look.at(x);
        C.due("13 words", Texts.told(x, "say 0 at 0 loud 1 if words=2;dawn if done=1 and slid=6 and harm=100"), 2);
        C.due("39 HARM of both", x.count(13), look.get("harm") + 100);
        C.due("13 snow, strain", Texts.told(x, "say 0 at 0 loud 1;dawn if snow 0 = 10 and snow 5 = 10 and strain 0 = 4 and strain 5 = 4"), 2);
    }

    private static void toldAtTheLastDay() {
        WordSlides x = new WordSlides();
        x.terms(0, 998);
        C.due("13 to DAY 999", Texts.told(x, "dawn"), 1);
        C.due("13 no further", Texts.told(x, "dawn"), -3);
        C.due("15 CLAUSE", x.stopped(), 0);
        C.due("39 DAY", x.count(15), 999);
        C.due("13 not run is not refused", Texts.told(x, "dawn if day < 999"), 0);
        x.terms(0, 980);
        C.due("13 19 DAWNS are left", Texts.told(x, "dawn times 20"), -3);
        C.due("39 DAY", x.count(15), 980);
        C.due("13 19 DAWNS are left", Texts.told(x, "dawn times 19"), 19);
    }
}
