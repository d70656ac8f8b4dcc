/** Both languages: tokens, limits, faults (promises 12 to 14), and what sums and tests tell. */
public final class LanguagesTest {
    private static final Checks C = new Checks("LanguagesTest");
    private static final int NONE = WordSlides.NONE;

    public static void main(String[] args) {
        tokens();
        lawFaults();
        talkFaults();
        clauses();
        parts();
        brackets();
        sums();
        broken();
        tests();
        knownByLaws();
        knownByTalks();
        C.finish();
    }

    private static void fault(boolean law, String text, int place) {
        WordSlides x = new WordSlides();
        int got = law ? Texts.law(x, text) : Texts.told(x, text);
        if (place == NONE) {
            C.due("reading " + text, got == -6 ? 1 : 0, 0);
        } else {
            C.due("reading " + text, got, -6);
        }
        C.due("fault of " + text, x.fault(), place);
        C.due("tape behind " + text, x.count(6), 0);
    }

    private static void tokens() {
        fault(true, "falls 1", NONE);
        fault(true, "  falls   1  ", NONE);
        fault(true, "falls1", NONE);
        fault(true, "falls1if1=1and2=2or3=3", NONE);
        fault(true, "falls 1 0", 8);
        fault(true, "fall s 1", 0);
        fault(true, "fallss 1", 0);
        fault(true, "Falls 1", 0);
        fault(true, "falls\t1", 5);
        fault(true, "falls" + (char) 233 + "1", 5);
        fault(true, "falls" + (char) 0 + "1", 5);
        fault(true, "falls 1.", 7);
        fault(true, "falls longr", 6);
        fault(true, "falls long r", 11);
        fault(true, "falls 0001000", NONE);
        fault(true, "falls 1001", 6);
        fault(true, "falls 99999999999999999999", 6);
        fault(true, "falls 4294967297", 6);
        fault(true, "falls" + " ".repeat(394) + "1", NONE);
        fault(true, "falls" + " ".repeat(395), 400);
    }

    private static void lawFaults() {
        fault(true, "", 0);
        fault(true, "    ", 4);
        fault(true, ";", 0);
        fault(true, "if 1=1", 0);
        fault(true, "say 0 at 0 loud 1", 0);
        fault(true, "shakes if 1=1", 7);
        fault(true, "bars long", 5);
        fault(true, "bars if", 7);
        fault(true, "bars if long", 12);
        fault(true, "bars if long = ", 15);
        fault(true, "bars if long = = 1", 15);
        fault(true, "bars if 1 < 2 < 3", 14);
        fault(true, "bars if not", 11);
        fault(true, "bars if not not not 1 = 1", NONE);
        fault(true, "bars if (1 = 1", 14);
        fault(true, "bars if (1 = 1]", 14);
        fault(true, "bars if (1) = 1", 10);
        fault(true, "bars if [1] = 1", NONE);
        fault(true, "bars if [1 = 1]", 11);
        fault(true, "bars if 1 = (1)", 12);
        fault(true, "bars if (1 = 1) = 1", 16);
        fault(true, "bars if 1 = 1 and", 17);
        fault(true, "bars if 1 = 1 and and 2 = 2", 18);
        fault(true, "bars if 1 = 1 or not (2 > 1 and 1 < 2)", NONE);
        fault(true, "bars if 1 = 1 if 2 = 2", 14);
        fault(true, "bars times 2", 5);
        fault(true, "shakes - 1", 7);
        fault(true, "shakes 1 -", 10);
        fault(true, "shakes 1 - - 1", 11);
        fault(true, "shakes [1", 9);
        fault(true, "shakes []", 8);
        fault(true, "shakes (1)", 7);
        fault(true, "shakes 1 = 1", 9);
        fault(true, "shakes words", 7);
        fault(true, "shakes strain 1", 7);
        fault(true, "shakes snow 1", 12);
        fault(true, "shakes 1;", 9);
        fault(true, "shakes 1;;bars", 9);
        fault(true, "shakes 1,bars", 8);
        fault(true, "shakes 1 bars", 9);
        for (String name : new String[] {"word", "long", "r", "loud", "place", "far", "slope", "snow", "day", "mood"}) {
            fault(true, "thaws " + name, NONE);
        }
        for (String name : new String[] {"done", "slid", "harm", "at", "times", "dawn", "if", "not", "x"}) {
            fault(true, "thaws " + name, 6);
        }
    }

    private static void talkFaults() {
        fault(false, "", 0);
        fault(false, "shakes 1", 0);
        fault(false, "dawn", NONE);
        fault(false, "dawn 1", 5);
        fault(false, "dawn times", 10);
        fault(false, "dawn times 0", 11);
        fault(false, "dawn times 21", 11);
        fault(false, "dawn times 020", NONE);
        fault(false, "dawn times day", 11);
        fault(false, "dawn times 1 times 1", 13);
        fault(false, "dawn if 1 = 2 times 2", 14);
        fault(false, "dawn times 2 if 1 = 2", NONE);
        fault(false, "say", 3);
        fault(false, "say 1 2", 6);
        fault(false, "say 1 at", 8);
        fault(false, "say 1 at 2 loud", 15);
        fault(false, "say 1 at 2 if", 11);
        fault(false, "say 1 at 2 loud 3 loud 1", 18);
        fault(false, "say loud at 2 loud 3", 4);
        fault(false, "say word at 2 loud 3", 4);
        fault(false, "say snow at 2 loud 3", 9);
        fault(false, "say snow 6 at 2 loud 3", 9);
        fault(false, "say snow 1001 at 2 loud 3", 9);
        fault(false, "say snow [1] at 2 loud 3", 9);
        fault(false, "say strain", 10);
        fault(false, "dawn if snow 5 > strain 0 + day + words + done + slid + harm", NONE);
        for (String name : new String[] {"long", "r", "place", "far", "slope", "mood"}) {
            fault(false, "dawn if " + name + " = 1", 8);
        }
    }

    private static void clauses() {
        fault(true, "bars;".repeat(11) + "bars", NONE);
        fault(true, "bars;".repeat(12) + "bars", 60);
        fault(true, "bars;".repeat(12), 60);
        fault(true, "bars;".repeat(12) + "  nonsense", 62);
        fault(true, "bars;".repeat(11) + "bars bars", 60);
        fault(false, "dawn;".repeat(11) + "dawn", NONE);
        fault(false, "dawn;".repeat(12) + "dawn", 60);
        WordSlides x = new WordSlides();
        C.due("240 in a text", Texts.told(x, ("dawn times 20;".repeat(12)).substring(0, 167)), 240);
        C.due("240 days", x.count(15), 240);
    }

    private static void parts() {
        fault(true, "falls 1" + "+1".repeat(49), NONE);
        fault(true, "falls 1" + "+1".repeat(50), 106);
        fault(true, "falls r" + "+1".repeat(48) + "+r", NONE);
        fault(true, "falls r" + "+[1".repeat(5) + "]".repeat(5) + "+1".repeat(44) + ";bars", NONE);
        fault(true, "falls 1" + "+1".repeat(48) + ";bars if 1 = 2", 116);
        fault(true, "falls 1" + "+1".repeat(48) + ";bars if [r = 2", 115);
        // TIMES and the numbers of slopes do not count.
        fault(false, "dawn times 5 if 0 = snow 1" + "+snow 2".repeat(48), NONE);
        fault(false, "dawn times 5 if 0 = snow 1" + "+snow 2".repeat(48) + ";dawn times 2", NONE);
        fault(false, "dawn times 5 if 0 = snow 1" + "+snow 2".repeat(49), 26 + 48 * 7 + 1);
    }

    private static void brackets() {
        fault(true, "falls " + "[".repeat(8) + "1" + "]".repeat(8), NONE);
        fault(true, "falls " + "[".repeat(9) + "1" + "]".repeat(9), 14);
        fault(true, "bars if " + "(".repeat(8) + "1=1" + ")".repeat(8), NONE);
        fault(true, "bars if " + "(".repeat(9) + "1=1" + ")".repeat(9), 16);
        fault(true, "bars if " + "(".repeat(4) + "[".repeat(4) + "1" + "]".repeat(4) + "=1" + ")".repeat(4), NONE);
        fault(true, "bars if " + "(".repeat(4) + "[".repeat(5) + "1" + "]".repeat(5) + "=1" + ")".repeat(4), 16);
        fault(true, "bars if " + "(".repeat(8) + "[1]=1" + ")".repeat(8), 16);
        fault(true, "falls " + "[1]+".repeat(20) + "1;bars if " + "(1=1) and ".repeat(10) + "1=1", NONE);
        fault(true, "bars if " + "not ".repeat(97) + "1=1", NONE);
        fault(true, "falls " + "[".repeat(8) + "1" + "]".repeat(7), 22);
        fault(true, "falls " + "[".repeat(8) + "1" + "]".repeat(9), 23);
    }

    /** What falls by that sum (0 .. 99), 10, if it is broken. */
    private static int falls(String sum) {
        WordSlides x = new WordSlides();
        x.force(Texts.law(x, "falls " + sum));
        return x.fault() == NONE ? x.weather(2, 0) : -99;
    }

    private static void sums() {
        C.due("order", falls("2 + 3 * 4"), 14);
        C.due("left", falls("20 - 5 - 3"), 12);
        C.due("left", falls("100 / 5 / 2"), 10);
        C.due("left", falls("7 * 7 / 10 % 3 * 5"), 5);
        C.due("left", falls("2 - 3 + 4"), 3);
        C.due("brackets", falls("[2 + 3] * [4 - 1]"), 15);
        C.due("brackets", falls("20 - [5 - 3]"), 18);
        C.due("cut towards 0", falls("20 + [0 - 7] / 2"), 17);
        C.due("what is left", falls("20 + [0 - 7] % 2"), 19);
        C.due("what is left", falls("20 + [0 - 7] % [0 - 3]"), 19);
        C.due("what is left", falls("20 + 7 % [0 - 3]"), 21);
        C.due("cut towards 0", falls("20 + 7 / [0 - 2]"), 17);
        C.due("most", falls("1000"), 99);
        C.due("least", falls("0 - 1000"), 0);
        C.due("deep", falls("1 + [2 * [3 + [4 * [5 + [6 - [7 - [8 - [1]]]]]]]]"), 95);
    }

    private static void broken() {
        C.due("divided by 0", falls("5 / 0"), 10);
        C.due("divided by 0", falls("5 % 0"), 10);
        C.due("divided by 0", falls("0 * [5 / [1 - 1]]"), 10);
        C.due("at the end", falls("1000 * 1000 * 1000"), 99);
        C.due("beyond", falls("1000 * 1000 * 1000 + 1"), 10);
        C.due("beyond on the way", falls("1000 * 1000 * 1000 + 1 - 1000"), 10);
        C.due("at the lower end", falls("0 - 1000 * 1000 * 1000"), 0);
        C.due("beyond the lower end", falls("0 - 1000 * 1000 * 1000 - 1"), 10);
        C.due("far beyond", falls("1000 * 1000 * 1000 * 1000"), 10);
        C.due("far beyond", falls("[1000 * 1000 * 1000] * [0 - 1000 * 1000 * 1000]"), 10);
        C.due("the last that holds", falls("7;falls 1 / 0"), 7);
        C.due("the last that holds", falls("7;falls 8 if 1 = 2;falls 9 if 1 / 0 = 1"), 7);
        C.due("the last that holds", falls("7;falls 8;falls 1 / 0 if 1 = 1"), 8);
        C.due("the last that holds", falls("7;falls 8;thaws 3;bars;shakes 5"), 8);
    }

    /** Whether a word is barred by that test. */
    private static int so(String test) {
        WordSlides x = new WordSlides();
        x.word(4, 3, 2);
        x.force(Texts.law(x, "bars if " + test));
        return x.fault() == NONE ? x.asks(0, 2, 1, 0, 1) : -99;
    }

    private static void tests() {
        C.due("below", so("1 < 2"), 1);
        C.due("below", so("2 < 2"), 0);
        C.due("above", so("2 > 1"), 1);
        C.due("above", so("2 > 2"), 0);
        C.due("same", so("1 + 1 = 2"), 1);
        C.due("same", so("1 = 2"), 0);
        C.due("and binds more", so("1 = 1 or 1 = 2 and 1 = 2"), 1);
        C.due("and binds more", so("1 = 2 and 1 = 2 or 1 = 1"), 1);
        C.due("brackets", so("1 = 2 and (1 = 2 or 1 = 1)"), 0);
        C.due("not", so("not 1 = 2"), 1);
        C.due("not", so("not not 1 = 2"), 0);
        C.due("not binds most", so("not 1 = 1 or 1 = 1"), 1);
        C.due("not of brackets", so("not (1 = 1 or 1 = 1)"), 0);
        C.due("three", so("1 = 2 or 1 = 3 or 1 = 1"), 1);
        C.due("three", so("1 = 1 and 2 = 2 and 3 = 4"), 0);
        C.due("or does not ask", so("1 = 1 or 1 / 0 = 1"), 1);
        C.due("or asks", so("1 = 2 or 1 / 0 = 1"), 0);
        C.due("and does not ask", so("not (1 = 2 and 1 / 0 = 1)"), 1);
        C.due("and asks", so("not (1 = 1 and 1 / 0 = 1)"), 0);
        C.due("broken first", so("1 / 0 = 1 or 1 = 1"), 0);
        C.due("broken first", so("not (1 / 0 = 1 and 1 = 2)"), 0);
        C.due("broken is not turned", so("not 1 / 0 = 1"), 0);
        C.due("leap over two", so("1 = 1 or 1 / 0 = 1 or 1 / 0 = 2"), 1);
        C.due("leap out of and", so("1 = 2 and 1 / 0 = 1 and 1 / 0 = 1 or 1 = 1"), 1);
        C.due("leap within", so("(1 = 1 or 1 / 0 = 1) and (2 = 1 or 2 = 2)"), 1);
        C.due("far beyond is broken", so("not 1000 * 1000 * 1000 * 1000 = 0"), 0);
    }

    private static void knownByLaws() {
        WordSlides x = new WordSlides();
        x.word(1, 0, 0);
        x.word(7, 5, 2);
        x.put(4, 6, 8);
        x.put(4, 0, 123);
        x.terms(0, 456);
        x.terms(1, 6);
        String[] names = {"word", "long", "r", "loud", "place", "far", "slope", "snow", "day", "mood"};
        int[] shaken = {1, 7, 5, 3, 2, 8, 4, 123, 456, 6};
        int[] barred = {1, 7, 5, 3, 2, -1, -1, -1, 456, 6};
        int[] weather = {-1, -1, -1, -1, -1, -1, 4, 123, 456, 6};
        x.image(0);
        for (int i = 0; i < names.length; i++) {
            x.back(0);
            x.force(Texts.law(x, "shakes " + names[i] + ";bars if " + names[i] + " = 0 - 1;falls 50 + " + names[i]
                + " if not " + names[i] + " > 99;falls 40 if " + names[i] + " > 99;thaws 51 + " + names[i] + " % 100"));
            C.due("shakes " + names[i], x.asks(1, 2, 3, 4, 0), shaken[i]);
            C.due("bars " + names[i], x.asks(1, 2, 3, 4, 1), barred[i] == -1 ? 1 : 0);
            C.due("falls " + names[i], x.weather(4, 0), weather[i] > 99 ? 40 : 50 + weather[i]);
            C.due("thaws " + names[i], x.weather(4, 1), Math.min(99, 51 + weather[i] % 100));
            // Asked again, the other way round: nothing of one question is left in the next one.
            C.due("bars " + names[i], x.asks(1, 2, 3, 4, 1), barred[i] == -1 ? 1 : 0);
            C.due("shakes " + names[i], x.asks(1, 2, 3, 4, 0), shaken[i]);
        }
    }

    private static void knownByTalks() {
        WordSlides x = new WordSlides();
        x.word(9, 0, 0);
        x.word(2, 0, 0);
        x.put(3, 0, 495);
        x.put(5, 0, 499);
        x.put(5, 3, 1);
        x.say(0, 1, 0, 1);
        // Word 1 strains by 1; 499 + 2 is above 500, 495 + 2 is not.
        C.due("told", Texts.told(x, "say 1 at 0 loud 1 if words = 2 and done = 0 and slid = 0 and harm = 0 and day = 0"
            + " and snow 3 = 495 and snow 5 = 499 and strain 3 = 1 and strain 0 = 1;"
            + "dawn if slid = 1 and harm = 0 and done = 1 and strain 3 = 2 and strain 5 = 0 and snow 5 = 0"), 2);
        C.due("day", x.count(15), 1);
        C.due("down", x.count(14), 499);
        C.due("harm at dawn", x.count(13), 505);
        C.due("harm of this text", Texts.told(x, "dawn if harm = 0;dawn if harm = 0 and slid = 0 and done = 1 and day = 2"), 2);
        x.terms(0, 0);
        x.put(0, 0, 495);
        C.due("harm and slides", Texts.told(x, "dawn;dawn times 3 if harm = 505 and slid = 1 and done < 3"), 3);
        C.due("asked each time", x.count(15), 3);
    }
}
