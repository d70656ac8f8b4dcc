import java.util.Arrays;

/** A valley in which snow hangs by what is said. The document tells what each call answers. */
public final class WordSlides {
    public static final int NONE = -1;

    private static final int SLOPES = 6;
    private static final int PLACES = 4;
    private static final int PEOPLE = 6;
    private static final int LOUDEST = 3;
    private static final int MOST_WORDS = 16;
    private static final int MEANINGS = 8;
    private static final int MOST_LONG = 9;
    private static final int MOST_RS = 9;
    private static final int MOST_OFTEN = 99;
    private static final int MOST_MEANT = 5;
    private static final int MOST_TALKS = 6;
    private static final int MOST_SEEN = 10;
    private static final int MOST_LAWS = 6;
    private static final int IMAGES = 2;
    private static final int MOST_UNDONE = 16;
    private static final int MOST_SNOW = 9999;
    private static final int MOST_FAR = 9;
    private static final int MOST_MOOD = 9;
    private static final int LAST_DAY = 999;
    private static final int MOST_SHAKE = 999;
    private static final int MOST_WEATHER = 99;
    private static final int COMMON_HOLD = 500;
    private static final int COMMON_FAR = 1;
    private static final int COMMON_FALL = 10;
    private static final int PLAN_DAYS = 4;
    private static final int BRING_WORDS = 3;
    private static final int MOST_SEED = 1000000;
    private static final int WINTER_DAYS = 100;

    // What a call is refused by.
    private static final int WRONG = -1;
    private static final int MISSING = -2;
    private static final int IMPOSSIBLE = -3;
    private static final int FULL = -5;
    private static final int UNREADABLE = -6;

    // What put() and of() tell of a slope.
    private static final int WHAT_SNOW = 0;
    private static final int WHAT_HOLD = 1;
    private static final int WHAT_BELOW = 2;
    private static final int WHAT_GORGE = 3;
    private static final int WHAT_FAR = 4;
    private static final int WHAT_STRAIN = 8;
    private static final int WHAT_SLID = 9;

    // What undo() answers.
    private static final int UTTERED = 0;
    private static final int NIGHT = 1;

    private static final int TAPE_BYTES = 400;
    private static final int FED_BYTES = 20;
    private static final int MOST_CLAUSES = 12;
    private static final int MOST_PARTS = 50;
    private static final int MOST_BRACKETS = 8;
    private static final int MOST_NUMBER = 1000;
    private static final int MOST_TIMES = 20;
    private static final int MOST_VALUE = 1000000000;
    private static final int BROKEN = Integer.MIN_VALUE;

    // Tokens: the end, the names in the order of NAMES from 1 on, other rows of letters, signs, numbers.
    // The words of a law stand side by side in NAMES, and so do those of talks that take no number.
    private static final String NAMES = "shakes falls thaws bars say dawn if or and not at times loud word long r place far slope mood snow day words done slid harm strain";
    private static final int OVER = 0;
    private static final int SHAKES = 1;
    private static final int FALLS = 2;
    private static final int THAWS = 3;
    private static final int BARS = 4;
    private static final int SAY = 5;
    private static final int DAWN = 6;
    private static final int IF = 7;
    private static final int OR = 8;
    private static final int AND = 9;
    private static final int NOT = 10;
    private static final int AT = 11;
    private static final int TIMES = 12;
    private static final int LOUD = 13;
    private static final int WORD = 14;
    private static final int LONG = 15;
    private static final int R = 16;
    private static final int PLACE = 17;
    private static final int FAR = 18;
    private static final int SLOPE = 19;
    private static final int MOOD = 20;
    private static final int SNOW = 21;
    private static final int DAY = 22;
    private static final int WORDS = 23;
    private static final int DONE = 24;
    private static final int SLID = 25;
    private static final int HARM = 26;
    private static final int STRAIN = 27;
    private static final int SNOW_OF = 28;
    private static final int STRAIN_OF = SNOW_OF + SLOPES;
    private static final int ALL_KNOWN = STRAIN_OF + SLOPES;
    private static final int UNNAMED = 99;
    private static final int SIGN = 128;
    private static final int NUMBER = 1000;

    // Steps of a text that has been read: a kind, shifted, and what goes with it.
    private static final int STEP_SHIFT = 10;
    private static final int STEP_MASK = 1023;
    private static final int STEP_END = 0;
    private static final int STEP_NUMBER = 1;
    private static final int STEP_KNOWN = 2;
    private static final int STEP_NOT = 3;
    private static final int STEP_AND = 4;
    private static final int STEP_OR = 5;
    private static final int STEP_ADD = 6;
    private static final int STEP_TAKE = 7;
    private static final int STEP_TIMES = 8;
    private static final int STEP_DIVIDE = 9;
    private static final int STEP_REST = 10;
    private static final int STEP_BELOW = 11;
    private static final int STEP_ABOVE = 12;
    private static final int STEP_SAME = 13;
    private static final int MOST_STEPS = 512;

    private final Valley valley = new Valley();
    private final Valley[] images = new Valley[IMAGES];
    private final Undo undone = new Undo();
    private final Reader reader = new Reader();
    private final Asker asker = new Asker(valley);
    private final Phrasing phrasing = new Phrasing(valley, asker);
    private final Planning planning = new Planning(valley, asker);
    private final Bringing bringing = new Bringing(valley, asker);
    private final Threat game = new Threat(valley, asker);
    private final Pack paper = new Pack();
    private final Pack latestWinter = new Pack();
    private final int[] refusals = new int[-UNREADABLE + 1];
    private final int[] weights = new int[MOST_WORDS];
    private boolean wintered;
    private int murmured;
    private int stoppedAt = NONE;
    private int latestRefusal;

    public WordSlides() {
    }

    public int put(int slope, int what, int value) {
        if (!isSlope(slope) || !canPut(slope, what, value)) {
            return refused(WRONG);
        }
        int was = ofSlope(slope, what);
        if (what == WHAT_SNOW) {
            valley.pack.snow[slope] = value;
        } else if (what == WHAT_HOLD) {
            valley.hold[slope] = value;
        } else if (what == WHAT_BELOW) {
            valley.below[slope] = value;
        } else if (what == WHAT_GORGE) {
            valley.gorge[slope] = value;
        } else {
            valley.far[slope * PLACES + what - WHAT_FAR] = value;
        }
        undone.clear();
        return accepted(was);
    }

    private static boolean canPut(int slope, int what, int value) {
        switch (what) {
            case WHAT_SNOW:
                return within(value, 0, MOST_SNOW);
            case WHAT_HOLD:
                return within(value, 1, MOST_SNOW);
            case WHAT_BELOW:
                return value == NONE || within(value, slope + 1, SLOPES - 1);
            case WHAT_GORGE:
                return within(value, 0, 1);
            default:
                return within(what, WHAT_FAR, WHAT_FAR + PLACES - 1) && within(value, 0, MOST_FAR);
        }
    }

    public int of(int slope, int what) {
        return isSlope(slope) && within(what, WHAT_SNOW, WHAT_SLID) ? ofSlope(slope, what) : NONE;
    }

    private int ofSlope(int slope, int what) {
        switch (what) {
            case WHAT_SNOW:
                return valley.pack.snow[slope];
            case WHAT_HOLD:
                return valley.hold[slope];
            case WHAT_BELOW:
                return valley.below[slope];
            case WHAT_GORGE:
                return valley.gorge[slope];
            case WHAT_STRAIN:
                return valley.pack.strain[slope];
            case WHAT_SLID:
                return valley.pack.slid[slope];
            default:
                return valley.far[slope * PLACES + what - WHAT_FAR];
        }
    }

    public int word(int lengthOf, int rs, int meaning) {
        if (!Words.canBe(lengthOf, rs, meaning)) {
            return refused(WRONG);
        }
        if (valley.words.isFull()) {
            return refused(FULL);
        }
        return accepted(valley.words.coin(lengthOf, rs, meaning));
    }

    public int at(int word, int what) {
        if (!valley.words.has(word)) {
            return NONE;
        }
        switch (what) {
            case 0:
                return valley.words.longs[word];
            case 1:
                return valley.words.rs[word];
            case 2:
                return valley.words.meanings[word];
            case 3:
                return valley.words.oftens[word];
            default:
                return NONE;
        }
    }

    public int often(int word, int value) {
        if (!within(value, 0, MOST_OFTEN)) {
            return refused(WRONG);
        }
        if (!valley.words.has(word)) {
            return refused(MISSING);
        }
        int was = valley.words.oftens[word];
        valley.words.oftens[word] = value;
        return accepted(was);
    }

    public int terms(int what, int value) {
        int most = what == 0 ? LAST_DAY : MOST_MOOD;
        if (!within(what, 0, 1) || !within(value, 0, most)) {
            return refused(WRONG);
        }
        int was = what == 0 ? valley.pack.day : valley.mood;
        if (what == 0) {
            valley.pack.day = value;
        } else {
            valley.mood = value;
        }
        undone.clear();
        return accepted(was);
    }

    public int feed(int a, int b, int c, int d, int e) {
        if (reader.length + FED_BYTES > TAPE_BYTES) {
            return NONE;
        }
        reader.append(a);
        reader.append(b);
        reader.append(c);
        reader.append(d);
        reader.append(e);
        return reader.length;
    }

    public int end(int n) {
        if (!within(n, 0, reader.length)) {
            return NONE;
        }
        reader.length = n;
        return n;
    }

    public int row() {
        if (reader.length == 0) {
            return refused(UNREADABLE);
        }
        int came = 0;
        murmured = 0;
        for (int i = 0; i < reader.length; i += 3) {
            if (coinFromTape(i)) {
                came++;
            } else {
                murmured++;
            }
        }
        reader.length = 0;
        return accepted(came);
    }

    private boolean coinFromTape(int i) {
        if (i + 3 > reader.length || valley.words.isFull()) {
            return false;
        }
        int lengthOf = reader.byteAt(i);
        int rs = reader.byteAt(i + 1);
        int meaning = reader.byteAt(i + 2);
        if (!Words.canBe(lengthOf, rs, meaning)) {
            return false;
        }
        valley.words.coin(lengthOf, rs, meaning);
        return true;
    }

    public int murmur() {
        return murmured;
    }

    public int law() {
        if (valley.lawCount >= MOST_LAWS) {
            reader.length = 0;
            return refused(FULL);
        }
        if (!reader.read(true)) {
            return refused(UNREADABLE);
        }
        valley.laws[valley.lawCount] = reader.text.trimmed(reader.used);
        valley.lawCount++;
        return accepted(valley.lawCount - 1);
    }

    public int told() {
        stoppedAt = NONE;
        if (!reader.read(false)) {
            return refused(UNREADABLE);
        }
        // Tried on paper first: one that can't be must leave nothing behind, undo's rows too.
        paper.copyFrom(valley.pack);
        stoppedAt = tellAll(paper, false);
        if (stoppedAt != NONE) {
            return refused(IMPOSSIBLE);
        }
        tellAll(valley.pack, true);
        return accepted(asker.known[DONE]);
    }

    /** Runs the talks that were read; which clause can't be, or NONE. */
    private int tellAll(Pack pack, boolean forGood) {
        Text text = reader.text;
        int harmAhead = pack.harm;
        asker.known[DONE] = 0;
        asker.known[SLID] = 0;
        for (int clause = 0; clause < text.clauses; clause++) {
            for (int n = 0; n < text.timesOf(clause); n++) {
                asker.knowTalks(pack, harmAhead);
                int test = text.testOf(clause);
                if (test != NONE && asker.value(text.steps, test) != 1) {
                    continue;
                }
                int slides = tellOnce(pack, clause, forGood);
                if (slides < 0) {
                    return clause;
                }
                asker.known[DONE]++;
                asker.known[SLID] += slides;
            }
        }
        return NONE;
    }

    /** How many slides, or what it is refused by. */
    private int tellOnce(Pack pack, int clause, boolean forGood) {
        Text text = reader.text;
        if (text.kindOf(clause) == DAWN) {
            if (pack.day >= LAST_DAY) {
                return IMPOSSIBLE;
            }
            if (forGood) {
                undone.keep(pack, NIGHT);
            }
            return passNight(pack);
        }
        int word = asker.value(text.steps, text.sumOf(clause, 0));
        int place = asker.value(text.steps, text.sumOf(clause, 1));
        int loud = asker.value(text.steps, text.sumOf(clause, 2));
        // A broken sum is far out of each range, so that it needs no look of its own.
        if (!isPlace(place) || !isLoud(loud) || !valley.words.has(word) || isBarred(pack, word, place, loud)) {
            return IMPOSSIBLE;
        }
        if (forGood) {
            undone.keep(pack, UTTERED);
        }
        return utter(pack, 0, word, place, loud);
    }

    public int fault() {
        return reader.fault;
    }

    public int stopped() {
        return stoppedAt;
    }

    public int force(int law) {
        if (law != NONE && !within(law, 0, valley.lawCount - 1)) {
            return refused(MISSING);
        }
        int was = valley.force;
        valley.force = law;
        return accepted(was);
    }

    public int asks(int word, int place, int loud, int slope, int what) {
        if (!valley.words.has(word) || !isPlace(place) || !isLoud(loud) || !within(what, 0, 1)) {
            return NONE;
        }
        if (what == 1) {
            return isBarred(valley.pack, word, place, loud) ? 1 : 0;
        }
        if (!isSlope(slope)) {
            return NONE;
        }
        asker.onDay(valley.pack.day);
        asker.ofSaid(word, place, loud);
        return asker.shakes(slope, valley.pack.snow[slope]);
    }

    public int weather(int slope, int what) {
        if (!isSlope(slope) || !within(what, 0, 1)) {
            return NONE;
        }
        asker.onDay(valley.pack.day);
        asker.ofWeather(slope, valley.pack.snow[slope]);
        return what == 0 ? asker.falls() : asker.thaws();
    }

    public int say(int person, int word, int place, int loud) {
        if (!within(person, 0, PEOPLE - 1) || !isPlace(place) || !isLoud(loud)) {
            return refused(WRONG);
        }
        if (!valley.words.has(word)) {
            return refused(MISSING);
        }
        if (isBarred(valley.pack, word, place, loud)) {
            return refused(IMPOSSIBLE);
        }
        undone.keep(valley.pack, UTTERED);
        return accepted(utter(valley.pack, person, word, place, loud));
    }

    private boolean isBarred(Pack pack, int word, int place, int loud) {
        asker.onDay(pack.day);
        asker.ofSaid(word, place, loud);
        return asker.bars();
    }

    /** Says a word that is not barred: how many slides. */
    private int utter(Pack pack, int person, int word, int place, int loud) {
        asker.onDay(pack.day);
        asker.ofSaid(word, place, loud);
        for (int slope = 0; slope < SLOPES; slope++) {
            pack.press(slope, person, asker.shakes(slope, pack.snow[slope]));
        }
        return pack.slideAll(valley);
    }

    public int dawn() {
        if (valley.pack.day >= LAST_DAY) {
            return refused(IMPOSSIBLE);
        }
        undone.keep(valley.pack, NIGHT);
        return accepted(passNight(valley.pack));
    }

    /** A dawn that can be: how many slides. */
    private int passNight(Pack pack) {
        pack.day++;
        asker.onDay(pack.day);
        for (int slope = 0; slope < SLOPES; slope++) {
            asker.ofWeather(slope, pack.snow[slope]);
            int snow = pack.snow[slope] + asker.falls() - asker.thaws();
            pack.snow[slope] = nearest(snow, 0, MOST_SNOW);
        }
        pack.ease();
        return pack.slideAll(valley);
    }

    public int undo() {
        if (undone.kept == 0) {
            return refused(IMPOSSIBLE);
        }
        return accepted(undone.giveBack(valley.pack));
    }

    public int share(int slope, int person, int what) {
        if (!isSlope(slope) || !within(person, 0, PEOPLE - 1) || !within(what, 0, 1)) {
            return NONE;
        }
        int all = 0;
        for (int i = 0; i < PEOPLE; i++) {
            all += valley.pack.latest[slope * PEOPLE + i];
        }
        if (all <= 0) {
            return NONE;
        }
        int part = valley.pack.latest[slope * PEOPLE + person];
        int common = commonDivisor(all, part);
        return (what == 0 ? part : all) / common;
    }

    /** 1 at least. */
    private static int commonDivisor(int a, int b) {
        int more = a;
        int less = b;
        for (int i = 0; i < 64 && less != 0; i++) {
            int rest = more % less;
            more = less;
            less = rest;
        }
        return Math.max(1, more);
    }

    public int mean(int meaning) {
        if (!within(meaning, 0, MEANINGS - 1)) {
            return refused(WRONG);
        }
        if (valley.meant >= MOST_MEANT) {
            return refused(FULL);
        }
        valley.saying[valley.meant] = meaning;
        valley.meant++;
        return accepted(valley.meant);
    }

    public int hush() {
        int had = valley.meant;
        valley.meant = 0;
        return had;
    }

    public int saying(int place, int loud, int what) {
        if (!isPlace(place) || !isLoud(loud) || !within(what, 0, valley.meant + 1)) {
            return NONE;
        }
        phrasing.prepare(place, loud);
        phrasing.search(0, 0, 1);
        if (what == 1) {
            return phrasing.rows;
        }
        if (phrasing.rows == 0) {
            return NONE;
        }
        return what == 0 ? phrasing.least : phrasing.first[what - 2];
    }

    public int talk(int word, int place, int loud) {
        if (!isPlace(place) || !isLoud(loud)) {
            return refused(WRONG);
        }
        if (!valley.words.has(word)) {
            return refused(MISSING);
        }
        if (valley.talkCount >= MOST_TALKS) {
            return refused(FULL);
        }
        int number = valley.talkCount;
        valley.talkWords[number] = word;
        valley.talkPlaces[number] = place;
        valley.talkLouds[number] = loud;
        valley.talkCount++;
        return accepted(number);
    }

    public int cancel() {
        int had = valley.talkCount;
        valley.talkCount = 0;
        return had;
    }

    public int plan(int n, int i) {
        if (!within(n, 1, PLAN_DAYS) || !within(i, NONE, valley.talkCount - 1) || !lookAhead(n)) {
            return NONE;
        }
        planning.begin(n);
        planning.search(0);
        if (planning.rows == 0) {
            return NONE;
        }
        return i == NONE ? planning.rows : planning.first[i];
    }

    /** Whether n days can come without a slide at a dawn; planning knows them then. */
    private boolean lookAhead(int n) {
        paper.copyFrom(valley.pack);
        for (int day = 0; day < n; day++) {
            if (day > 0 && (paper.day >= LAST_DAY || passNight(paper) > 0)) {
                return false;
            }
            planning.noteDay(day, paper);
        }
        return true;
    }

    public int bring(int slope, int place, int i) {
        if (!isSlope(slope) || !isPlace(place) || !within(i, NONE, BRING_WORDS - 1)) {
            return NONE;
        }
        if (valley.below[slope] == NONE && valley.gorge[slope] == 0) {
            return NONE; // what slides there is harm at once
        }
        bringing.begin(slope, place);
        for (int n = 1; n <= BRING_WORDS; n++) {
            if (bringing.search(0, n, 0)) {
                return i == NONE ? n : i < n ? bringing.chosen[i] : NONE;
            }
        }
        return NONE;
    }

    public int threat(int slope, int place, int what) {
        if (!isSlope(slope) || !isPlace(place) || !within(what, 0, 2)) {
            return NONE;
        }
        int snow = valley.pack.snow[slope];
        int room = valley.hold[slope] - snow - valley.pack.strain[slope];
        if (snow == 0 || room < 0) {
            return NONE;
        }
        game.prepare(slope, place);
        game.play(room);
        if (what == 0) {
            return game.winning > 0 ? 1 : 0;
        }
        return what == 1 ? game.winning : game.lowest;
    }

    public int seen(int slope, int sum, int slid) {
        if (!isSlope(slope) || !within(sum, 1, MOST_SNOW) || !within(slid, 0, 1)) {
            return refused(WRONG);
        }
        if (valley.seenCount >= MOST_SEEN) {
            return refused(FULL);
        }
        valley.seenSlopes[valley.seenCount] = slope;
        valley.seenSums[valley.seenCount] = sum;
        valley.seenSlid[valley.seenCount] = slid;
        valley.seenCount++;
        return accepted(valley.seenCount);
    }

    public int forget() {
        int had = valley.seenCount;
        valley.seenCount = 0;
        return had;
    }

    public int holds(int slope, int what) {
        if (!isSlope(slope) || !within(what, 0, 3)) {
            return NONE;
        }
        int least = 1;
        int greatest = MOST_SNOW;
        for (int i = 0; i < valley.seenCount; i++) {
            if (valley.seenSlopes[i] != slope) {
                continue;
            }
            if (valley.seenSlid[i] == 1) {
                greatest = Math.min(greatest, valley.seenSums[i] - 1);
            } else {
                least = Math.max(least, valley.seenSums[i]);
            }
        }
        int left = Math.max(0, greatest - least + 1);
        if (what == 2) {
            return left;
        }
        if (left == 0 || what == 3 && left == 1) {
            return NONE;
        }
        return what == 0 ? least : what == 1 ? greatest : least + left / 2;
    }

    public int signs() {
        int left = 0;
        for (int word = 0; word < valley.words.known; word++) {
            if (valley.words.oftens[word] > 0) {
                weights[left] = valley.words.oftens[word];
                left++;
            }
        }
        if (left == 1) {
            return weights[0];
        }
        int all = 0;
        for (; left > 1; left--) {
            lightestLast(left);
            lightestLast(left - 1);
            weights[left - 2] += weights[left - 1];
            all += weights[left - 2];
        }
        return all;
    }

    /** Brings the least of the first n weights to their end. */
    private void lightestLast(int n) {
        for (int i = 0; i < n - 1; i++) {
            if (weights[i] < weights[n - 1]) {
                int lighter = weights[i];
                weights[i] = weights[n - 1];
                weights[n - 1] = lighter;
            }
        }
    }

    public int winter(int seed, int n) {
        if (!within(seed, 0, MOST_SEED) || !within(n, 1, WINTER_DAYS)) {
            return refused(WRONG);
        }
        Pack pack = latestWinter;
        pack.copyFrom(valley.pack);
        Arrays.fill(pack.slid, 0);
        pack.harm = 0;
        int s = seed;
        for (int day = 0; day < n; day++) {
            if (valley.words.known > 0) {
                s = winterTalk(pack, s);
            }
            if (pack.day >= LAST_DAY) {
                break;
            }
            passNight(pack);
        }
        wintered = true;
        return accepted(pack.harm);
    }

    /** Says what is drawn, if it can be said; what s is then. */
    private int winterTalk(Pack pack, int s) {
        int words = Math.max(1, valley.words.known);
        int first = nextDraw(s);
        int second = nextDraw(first);
        int third = nextDraw(second);
        int word = first % words;
        int place = second % PLACES;
        int loud = third % LOUDEST + 1;
        if (!isBarred(pack, word, place, loud)) {
            utter(pack, 0, word, place, loud);
        }
        return third;
    }

    private static int nextDraw(int s) {
        return (s * 1103 + 12345) % 1000003;
    }

    public int drawn(int slope, int what) {
        if (!wintered || !isSlope(slope) || !within(what, 0, 1)) {
            return NONE;
        }
        return what == 0 ? latestWinter.snow[slope] : latestWinter.slid[slope];
    }

    public int image(int k) {
        if (!within(k, 0, IMAGES - 1)) {
            return refused(WRONG);
        }
        if (images[k] == null) {
            images[k] = new Valley();
        }
        images[k].copyFrom(valley);
        return accepted(0);
    }

    public int back(int k) {
        if (!within(k, 0, IMAGES - 1)) {
            return refused(WRONG);
        }
        if (images[k] == null) {
            return refused(MISSING);
        }
        valley.copyFrom(images[k]);
        undone.clear();
        return accepted(0);
    }

    public int count(int what) {
        switch (what) {
            case 0:
                return valley.words.known;
            case 1:
                return valley.meant;
            case 2:
                return valley.talkCount;
            case 3:
                return valley.seenCount;
            case 4:
                return valley.lawCount;
            case 5:
                return undone.kept;
            case 6:
                return reader.length;
            case 7:
                return refusals[-WRONG];
            case 8:
                return refusals[-MISSING];
            case 9:
                return refusals[-IMPOSSIBLE];
            case 10:
                return refusals[-FULL];
            case 11:
                return refusals[-UNREADABLE];
            case 12:
                return valley.force;
            case 13:
                return valley.pack.harm;
            case 14:
                return valley.pack.down;
            case 15:
                return valley.pack.day;
            case 16:
                return valley.mood;
            default:
                return NONE;
        }
    }

    public int status() {
        return latestRefusal;
    }

    private int refused(int by) {
        latestRefusal = by;
        refusals[-by]++;
        return by;
    }

    private int accepted(int answer) {
        latestRefusal = 0;
        return answer;
    }

    private static boolean within(int value, int least, int most) {
        return value >= least && value <= most;
    }

    private static int nearest(int value, int least, int most) {
        return Math.max(least, Math.min(most, value));
    }

    private static boolean isSlope(int slope) {
        return within(slope, 0, SLOPES - 1);
    }

    private static boolean isPlace(int place) {
        return within(place, 0, PLACES - 1);
    }

    private static boolean isLoud(int loud) {
        return within(loud, 1, LOUDEST);
    }

    /** All that saying a word and a dawn change, and so all that undo() puts back. */
    private static final class Pack {
        final int[] snow = new int[SLOPES];
        final int[] strain = new int[SLOPES];
        final int[] parts = new int[SLOPES * PEOPLE];
        final int[] latest = new int[SLOPES * PEOPLE];
        final int[] slid = new int[SLOPES];
        int day;
        int harm;
        int down;

        void copyFrom(Pack from) {
            System.arraycopy(from.snow, 0, snow, 0, SLOPES);
            System.arraycopy(from.strain, 0, strain, 0, SLOPES);
            System.arraycopy(from.parts, 0, parts, 0, SLOPES * PEOPLE);
            System.arraycopy(from.latest, 0, latest, 0, SLOPES * PEOPLE);
            System.arraycopy(from.slid, 0, slid, 0, SLOPES);
            day = from.day;
            harm = from.harm;
            down = from.down;
        }

        void press(int slope, int person, int amount) {
            strain[slope] += amount;
            parts[slope * PEOPLE + person] += amount;
        }

        void ease() {
            Arrays.fill(strain, 0);
            Arrays.fill(parts, 0);
        }

        /** One way up is enough: what slides reaches slopes of higher numbers alone. */
        int slideAll(Valley valley) {
            int slides = 0;
            for (int slope = 0; slope < SLOPES; slope++) {
                if (snow[slope] > 0 && snow[slope] + strain[slope] > valley.hold[slope]) {
                    slideOne(slope, valley);
                    slides++;
                }
            }
            return slides;
        }

        private void slideOne(int slope, Valley valley) {
            int below = valley.below[slope];
            if (isSlope(below)) {
                snow[below] = Math.min(MOST_SNOW, snow[below] + snow[slope]);
            } else if (valley.gorge[slope] == 1) {
                down += snow[slope];
            } else {
                harm += snow[slope];
            }
            snow[slope] = 0;
            strain[slope] = 0;
            slid[slope]++;
            for (int i = slope * PEOPLE; i < slope * PEOPLE + PEOPLE; i++) {
                latest[i] = parts[i];
                parts[i] = 0;
            }
        }
    }

    private static final class Words {
        final int[] longs = new int[MOST_WORDS];
        final int[] rs = new int[MOST_WORDS];
        final int[] meanings = new int[MOST_WORDS];
        final int[] oftens = new int[MOST_WORDS];
        int known;

        static boolean canBe(int lengthOf, int rs, int meaning) {
            return within(lengthOf, 1, MOST_LONG) && within(rs, 0, MOST_RS) && within(meaning, 0, MEANINGS - 1);
        }

        boolean has(int word) {
            return within(word, 0, known - 1);
        }

        boolean isFull() {
            return known >= MOST_WORDS;
        }

        /** A new word's number; there must be room. */
        int coin(int lengthOf, int r, int meaning) {
            longs[known] = lengthOf;
            rs[known] = r;
            meanings[known] = meaning;
            oftens[known] = 0;
            known++;
            return known - 1;
        }

        void copyFrom(Words from) {
            System.arraycopy(from.longs, 0, longs, 0, MOST_WORDS);
            System.arraycopy(from.rs, 0, rs, 0, MOST_WORDS);
            System.arraycopy(from.meanings, 0, meanings, 0, MOST_WORDS);
            System.arraycopy(from.oftens, 0, oftens, 0, MOST_WORDS);
            known = from.known;
        }
    }

    /** All that an image keeps. */
    private static final class Valley {
        final Pack pack = new Pack();
        final int[] hold = new int[SLOPES];
        final int[] below = new int[SLOPES];
        final int[] gorge = new int[SLOPES];
        final int[] far = new int[SLOPES * PLACES];
        final Words words = new Words();
        final int[] saying = new int[MOST_MEANT];
        final int[] talkWords = new int[MOST_TALKS];
        final int[] talkPlaces = new int[MOST_TALKS];
        final int[] talkLouds = new int[MOST_TALKS];
        final int[] seenSlopes = new int[MOST_SEEN];
        final int[] seenSums = new int[MOST_SEEN];
        final int[] seenSlid = new int[MOST_SEEN];
        final Text[] laws = new Text[MOST_LAWS];
        int meant;
        int talkCount;
        int seenCount;
        int lawCount;
        int force = NONE;
        int mood;

        Valley() {
            Arrays.fill(hold, COMMON_HOLD);
            Arrays.fill(below, NONE);
            Arrays.fill(far, COMMON_FAR);
        }

        void copyFrom(Valley from) {
            pack.copyFrom(from.pack);
            words.copyFrom(from.words);
            System.arraycopy(from.hold, 0, hold, 0, SLOPES);
            System.arraycopy(from.below, 0, below, 0, SLOPES);
            System.arraycopy(from.gorge, 0, gorge, 0, SLOPES);
            System.arraycopy(from.far, 0, far, 0, SLOPES * PLACES);
            System.arraycopy(from.saying, 0, saying, 0, MOST_MEANT);
            System.arraycopy(from.talkWords, 0, talkWords, 0, MOST_TALKS);
            System.arraycopy(from.talkPlaces, 0, talkPlaces, 0, MOST_TALKS);
            System.arraycopy(from.talkLouds, 0, talkLouds, 0, MOST_TALKS);
            System.arraycopy(from.seenSlopes, 0, seenSlopes, 0, MOST_SEEN);
            System.arraycopy(from.seenSums, 0, seenSums, 0, MOST_SEEN);
            System.arraycopy(from.seenSlid, 0, seenSlid, 0, MOST_SEEN);
            for (int i = 0; i < MOST_LAWS; i++) {
                laws[i] = from.laws[i];
            }
            meant = from.meant;
            talkCount = from.talkCount;
            seenCount = from.seenCount;
            lawCount = from.lawCount;
            force = from.force;
            mood = from.mood;
        }

        /** null without. */
        Text lawInForce() {
            return within(force, 0, MOST_LAWS - 1) ? laws[force] : null;
        }

        /** How much more strain a slope bears without a slide. */
        int roomOn(int slope, Pack now) {
            int snow = now.snow[slope];
            return snow == 0 ? MOST_VALUE : hold[slope] - snow - now.strain[slope];
        }
    }

    /** What can be undone: the latest packs, in a ring. */
    private static final class Undo {
        final Pack[] packs = new Pack[MOST_UNDONE];
        final int[] kinds = new int[MOST_UNDONE];
        int next;
        int kept;

        void keep(Pack pack, int kind) {
            if (packs[next] == null) {
                packs[next] = new Pack();
            }
            packs[next].copyFrom(pack);
            kinds[next] = kind;
            next = (next + 1) % MOST_UNDONE;
            kept = Math.min(MOST_UNDONE, kept + 1);
        }

        /** What kind was undone; NONE, if nothing is kept. */
        int giveBack(Pack pack) {
            int latest = (next + MOST_UNDONE - 1) % MOST_UNDONE;
            if (kept == 0 || packs[latest] == null) {
                return NONE;
            }
            pack.copyFrom(packs[latest]);
            next = latest;
            kept--;
            return kinds[latest];
        }

        void clear() {
            kept = 0;
        }
    }

    /** A text that has been read: rows of clauses, and the steps of their sums and tests. */
    private static final class Text {
        static final int ROW = 6;
        static final int KIND = 0;
        static final int SUM = 1;
        static final int TEST = 4;
        static final int REPEAT = 5;

        final int[] rows;
        final int[] steps;
        int clauses;

        Text(int[] rows, int[] steps, int clauses) {
            this.rows = rows;
            this.steps = steps;
            this.clauses = clauses;
        }

        Text trimmed(int used) {
            return new Text(Arrays.copyOf(rows, clauses * ROW), Arrays.copyOf(steps, used), clauses);
        }

        int kindOf(int clause) {
            return rows[clause * ROW + KIND];
        }

        int sumOf(int clause, int i) {
            return rows[clause * ROW + SUM + i];
        }

        /** NONE without. */
        int testOf(int clause) {
            return rows[clause * ROW + TEST];
        }

        int timesOf(int clause) {
            return rows[clause * ROW + REPEAT];
        }
    }

    /** The tape, and how a text on it is read. A method that reads leaves here at the fault, if it answers false. */
    private static final class Reader {
        final byte[] tape = new byte[TAPE_BYTES];
        final int[] tokens = new int[TAPE_BYTES + 1];
        final int[] places = new int[TAPE_BYTES + 1];
        final Text text = new Text(new int[MOST_CLAUSES * Text.ROW], new int[MOST_STEPS], 0);
        int length;
        int fault = NONE;
        int used;
        private int here;
        private int parts;
        private int brackets;
        private boolean ofLaw;

        /** There must be room for four bytes. */
        void append(int four) {
            for (int shift = 24; shift >= 0 && length < TAPE_BYTES; shift -= 8) {
                tape[length] = (byte) (four >> shift);
                length++;
            }
        }

        int byteAt(int i) {
            return tape[i] & 255;
        }

        /** Reads the tape, which is empty then, into text: whether it can be. */
        boolean read(boolean asLaw) {
            scan();
            length = 0;
            ofLaw = asLaw;
            here = 0;
            used = 0;
            parts = 0;
            brackets = 0;
            text.clauses = 0;
            boolean good = readClauses();
            fault = good ? NONE : places[here];
            return good;
        }

        private void scan() {
            int n = 0;
            int stop = 0;
            for (int i = 0; i < length; i++) {
                if (i >= stop && tape[i] != ' ') {
                    stop = tokenEnd(i);
                    places[n] = i;
                    tokens[n] = tokenOf(i, stop);
                    n++;
                }
            }
            places[n] = length;
            tokens[n] = OVER;
        }

        private static boolean isLetter(int sign) {
            return within(sign, 'a', 'z');
        }

        private static boolean isDigit(int sign) {
            return within(sign, '0', '9');
        }

        private int tokenEnd(int start) {
            int stop = start + 1;
            boolean letters = isLetter(tape[start]);
            if (!letters && !isDigit(tape[start])) {
                return stop;
            }
            while (stop < length && (letters ? isLetter(tape[stop]) : isDigit(tape[stop]))) {
                stop++;
            }
            return stop;
        }

        private int tokenOf(int start, int stop) {
            if (isLetter(tape[start])) {
                return nameOf(start, stop);
            }
            if (!isDigit(tape[start])) {
                return SIGN + (tape[start] & 255);
            }
            int value = 0;
            for (int i = start; i < stop; i++) {
                value = Math.min(MOST_NUMBER + 1, value * 10 + tape[i] - '0');
            }
            return NUMBER + value;
        }

        private int nameOf(int start, int stop) {
            int number = 1;
            int from = 0;
            for (int i = 0; i <= NAMES.length(); i++) {
                if (i == NAMES.length() || NAMES.charAt(i) == ' ') {
                    if (i - from == stop - start && spells(from, start, stop)) {
                        return number;
                    }
                    number++;
                    from = i + 1;
                }
            }
            return UNNAMED;
        }

        private boolean spells(int from, int start, int stop) {
            for (int i = start; i < stop; i++) {
                if (NAMES.charAt(from + i - start) != tape[i]) {
                    return false;
                }
            }
            return true;
        }

        private boolean readClauses() {
            for (int clause = 0; clause < MOST_CLAUSES; clause++) {
                if (!readClause(clause)) {
                    return false;
                }
                text.clauses = clause + 1;
                if (tokens[here] == OVER) {
                    return true;
                }
                if (!pass(SIGN + ';')) {
                    return false;
                }
            }
            return false;
        }

        private boolean readClause(int clause) {
            int kind = tokens[here];
            if (ofLaw ? !within(kind, SHAKES, BARS) : !within(kind, SAY, DAWN)) {
                return false;
            }
            here++;
            text.rows[clause * Text.ROW + Text.KIND] = kind;
            boolean good = true;
            if (kind == SAY) {
                good = keepSum(clause, 0) && pass(AT) && keepSum(clause, 1) && pass(LOUD) && keepSum(clause, 2);
            } else if (within(kind, SHAKES, THAWS)) {
                good = keepSum(clause, 0);
            }
            return good && keepTimes(clause) && keepTest(clause);
        }

        private boolean pass(int token) {
            if (tokens[here] != token) {
                return false;
            }
            here++;
            return true;
        }

        private boolean keepSum(int clause, int i) {
            text.rows[clause * Text.ROW + Text.SUM + i] = used;
            boolean good = readSum();
            addStep(STEP_END, 0);
            return good;
        }

        private boolean keepTimes(int clause) {
            int at = clause * Text.ROW + Text.REPEAT;
            text.rows[at] = 1;
            if (ofLaw || !pass(TIMES)) {
                return true;
            }
            if (!within(tokens[here], NUMBER + 1, NUMBER + MOST_TIMES)) {
                return false;
            }
            text.rows[at] = tokens[here] - NUMBER;
            here++;
            return true;
        }

        private boolean keepTest(int clause) {
            int at = clause * Text.ROW + Text.TEST;
            text.rows[at] = NONE;
            if (!pass(IF)) {
                return true;
            }
            text.rows[at] = used;
            boolean good = readTest();
            addStep(STEP_END, 0);
            return good;
        }

        private void addStep(int kind, int with) {
            if (used < MOST_STEPS) {
                text.steps[used] = kind << STEP_SHIFT | with;
                used++;
            }
        }

        /** Makes the step there, "and" or "or", leap over all that has been read since. */
        private void aim(int step, int kind) {
            if (step < MOST_STEPS) {
                text.steps[step] = kind << STEP_SHIFT | used;
            }
        }

        private boolean readTest() {
            boolean good = readBoth();
            for (int n = 0; n < TAPE_BYTES && good && pass(OR); n++) {
                int leap = used;
                addStep(STEP_OR, 0);
                good = readBoth();
                aim(leap, STEP_OR);
            }
            return good;
        }

        private boolean readBoth() {
            boolean good = readPlain();
            for (int n = 0; n < TAPE_BYTES && good && pass(AND); n++) {
                int leap = used;
                addStep(STEP_AND, 0);
                good = readPlain();
                aim(leap, STEP_AND);
            }
            return good;
        }

        private boolean readPlain() {
            boolean turned = false;
            for (int n = 0; n < TAPE_BYTES && pass(NOT); n++) {
                turned = !turned;
            }
            boolean good = tokens[here] == SIGN + '(' ? readBracket(')') : readCompared();
            if (turned) {
                addStep(STEP_NOT, 0);
            }
            return good;
        }

        private boolean readBracket(char close) {
            if (brackets >= MOST_BRACKETS) {
                return false;
            }
            brackets++;
            here++;
            if (!(close == ')' ? readTest() : readSum()) || !pass(SIGN + close)) {
                return false;
            }
            brackets--;
            return true;
        }

        private boolean readCompared() {
            if (!readSum()) {
                return false;
            }
            int kind = joinOf(tokens[here]);
            if (kind < STEP_BELOW) {
                return false;
            }
            here++;
            boolean good = readSum();
            addStep(kind, 0);
            return good;
        }

        private boolean readSum() {
            boolean good = readTerm();
            for (int n = 0; n < TAPE_BYTES && good; n++) {
                int kind = joinOf(tokens[here]);
                if (!within(kind, STEP_ADD, STEP_TAKE)) {
                    break;
                }
                here++;
                good = readTerm();
                addStep(kind, 0);
            }
            return good;
        }

        private boolean readTerm() {
            boolean good = readPart();
            for (int n = 0; n < TAPE_BYTES && good; n++) {
                int kind = joinOf(tokens[here]);
                if (!within(kind, STEP_TIMES, STEP_REST)) {
                    break;
                }
                here++;
                good = readPart();
                addStep(kind, 0);
            }
            return good;
        }

        /** The step that joins two values by that sign, or STEP_END. */
        private static int joinOf(int token) {
            switch (token) {
                case SIGN + '+':
                    return STEP_ADD;
                case SIGN + '-':
                    return STEP_TAKE;
                case SIGN + '*':
                    return STEP_TIMES;
                case SIGN + '/':
                    return STEP_DIVIDE;
                case SIGN + '%':
                    return STEP_REST;
                case SIGN + '<':
                    return STEP_BELOW;
                case SIGN + '>':
                    return STEP_ABOVE;
                case SIGN + '=':
                    return STEP_SAME;
                default:
                    return STEP_END;
            }
        }

        private boolean readPart() {
            int token = tokens[here];
            if (token == SIGN + '[') {
                return readBracket(']');
            }
            if (parts >= MOST_PARTS) {
                return false;
            }
            parts++;
            if (within(token, NUMBER, NUMBER + MOST_NUMBER)) {
                addStep(STEP_NUMBER, token - NUMBER);
            } else if (ofLaw ? within(token, LOUD, DAY) : within(token, DAY, HARM)) {
                addStep(STEP_KNOWN, token);
            } else if (!ofLaw && (token == SNOW || token == STRAIN)) {
                here++;
                if (!within(tokens[here], NUMBER, NUMBER + SLOPES - 1)) {
                    return false;
                }
                addStep(STEP_KNOWN, (token == SNOW ? SNOW_OF : STRAIN_OF) + tokens[here] - NUMBER);
            } else {
                return false;
            }
            here++;
            return true;
        }
    }

    /** What the law in force tells, and the values of sums and tests of both languages. */
    private static final class Asker {
        final Valley valley;
        final int[] known = new int[ALL_KNOWN];
        final int[] stack = new int[MOST_PARTS];

        Asker(Valley valley) {
            this.valley = valley;
        }

        void onDay(int day) {
            known[DAY] = day;
            known[MOOD] = valley.mood;
        }

        void ofSaid(int word, int place, int loud) {
            known[WORD] = word;
            known[LONG] = valley.words.longs[word];
            known[R] = valley.words.rs[word];
            known[PLACE] = place;
            known[LOUD] = loud;
        }

        void ofWeather(int slope, int snow) {
            known[WORD] = NONE;
            known[LONG] = NONE;
            known[R] = NONE;
            known[PLACE] = NONE;
            known[LOUD] = NONE;
            known[FAR] = NONE;
            known[SLOPE] = slope;
            known[SNOW] = snow;
        }

        /** Sets what talks know, but for DONE and SLID, which are counted as they run. */
        void knowTalks(Pack pack, int harmAhead) {
            known[DAY] = pack.day;
            known[WORDS] = valley.words.known;
            known[HARM] = pack.harm - harmAhead;
            System.arraycopy(pack.snow, 0, known, SNOW_OF, SLOPES);
            System.arraycopy(pack.strain, 0, known, STRAIN_OF, SLOPES);
        }

        /** Behind onDay and ofSaid. */
        int shakes(int slope, int snow) {
            known[FAR] = valley.far[slope * PLACES + known[PLACE]];
            known[SLOPE] = slope;
            known[SNOW] = snow;
            int told = lastTold(SHAKES);
            if (told == BROKEN) {
                return Math.max(0, known[LONG] * known[LOUD] - known[FAR]);
            }
            return nearest(told, 0, MOST_SHAKE);
        }

        /** Behind onDay and ofSaid. */
        boolean bars() {
            known[FAR] = NONE;
            known[SLOPE] = NONE;
            known[SNOW] = NONE;
            return lastTold(BARS) != BROKEN;
        }

        /** Behind onDay and ofWeather. */
        int falls() {
            int told = lastTold(FALLS);
            return told == BROKEN ? COMMON_FALL : nearest(told, 0, MOST_WEATHER);
        }

        /** Behind onDay and ofWeather. */
        int thaws() {
            int told = lastTold(THAWS);
            return told == BROKEN ? 0 : nearest(told, 0, MOST_WEATHER);
        }

        /** What the last clause of that kind that holds tells ("bars": 1); BROKEN without one. */
        private int lastTold(int kind) {
            Text law = valley.lawInForce();
            if (law == null) {
                return BROKEN;
            }
            for (int clause = law.clauses - 1; clause >= 0; clause--) {
                if (law.kindOf(clause) != kind) {
                    continue;
                }
                int test = law.testOf(clause);
                if (test != NONE && value(law.steps, test) != 1) {
                    continue;
                }
                int told = kind == BARS ? 1 : value(law.steps, law.sumOf(clause, 0));
                if (told != BROKEN) {
                    return told;
                }
            }
            return BROKEN;
        }

        /** The value of a sum, or of a test (1, 0), whose steps begin there; or BROKEN. */
        int value(int[] steps, int from) {
            int top = 0;
            int i = from;
            for (int n = 0; n < MOST_STEPS && i >= 0 && i < steps.length; n++) {
                int kind = steps[i] >> STEP_SHIFT;
                int with = steps[i] & STEP_MASK;
                i++;
                if (kind == STEP_END) {
                    break;
                }
                if (kind == STEP_NUMBER || kind == STEP_KNOWN) {
                    if (top >= MOST_PARTS || kind == STEP_KNOWN && with >= ALL_KNOWN) {
                        return BROKEN;
                    }
                    stack[top] = kind == STEP_NUMBER ? with : known[with];
                    top++;
                } else if (top < 1) {
                    return BROKEN;
                } else if (kind == STEP_NOT) {
                    stack[top - 1] = 1 - stack[top - 1];
                } else if (kind == STEP_AND || kind == STEP_OR) {
                    if (stack[top - 1] == (kind == STEP_OR ? 1 : 0)) {
                        i = with;
                    } else {
                        top--;
                    }
                } else {
                    top--;
                    int joint = top < 1 ? BROKEN : joined(kind, stack[top - 1], stack[top]);
                    if (joint == BROKEN) {
                        return BROKEN;
                    }
                    stack[top - 1] = joint;
                }
            }
            return top > 0 ? stack[0] : BROKEN;
        }

        private static int joined(int kind, long a, long b) {
            if (b == 0 && (kind == STEP_DIVIDE || kind == STEP_REST)) {
                return BROKEN;
            }
            long c;
            switch (kind) {
                case STEP_ADD:
                    c = a + b;
                    break;
                case STEP_TAKE:
                    c = a - b;
                    break;
                case STEP_TIMES:
                    c = a * b;
                    break;
                case STEP_DIVIDE:
                    c = a / b;
                    break;
                case STEP_REST:
                    c = a % b;
                    break;
                case STEP_BELOW:
                    c = a < b ? 1 : 0;
                    break;
                case STEP_ABOVE:
                    c = a > b ? 1 : 0;
                    break;
                default:
                    c = a == b ? 1 : 0;
                    break;
            }
            return c > MOST_VALUE || c < -MOST_VALUE ? BROKEN : (int) c;
        }
    }

    /** How a saying can be put in words so that nothing slides. */
    private static final class Phrasing {
        final Valley valley;
        final Asker asker;
        final boolean[] open = new boolean[MOST_WORDS];
        final int[] shakes = new int[MOST_WORDS * SLOPES];
        final int[] room = new int[(MOST_MEANT + 1) * SLOPES];
        final int[] chosen = new int[MOST_MEANT];
        final int[] first = new int[MOST_MEANT];
        int least;
        int rows;

        Phrasing(Valley valley, Asker asker) {
            this.valley = valley;
            this.asker = asker;
        }

        void prepare(int place, int loud) {
            least = MOST_VALUE;
            rows = 0;
            asker.onDay(valley.pack.day);
            for (int slope = 0; slope < SLOPES; slope++) {
                room[slope] = valley.roomOn(slope, valley.pack);
            }
            for (int word = 0; word < valley.words.known; word++) {
                asker.ofSaid(word, place, loud);
                open[word] = !asker.bars();
                for (int slope = 0; slope < SLOPES; slope++) {
                    shakes[word * SLOPES + slope] = asker.shakes(slope, valley.pack.snow[slope]);
                }
            }
        }

        /**
         * As long as nothing slides, the order of words makes no difference: of the rows that differ in the order of
         * words with one meaning the first alone is looked at, and stands for as many as ways tells.
         */
        private void search(int i, int longs, int ways) {
            if (i >= valley.meant) {
                note(longs, ways);
                return;
            }
            int meaning = valley.saying[i];
            int alike = 0;
            int from = 0;
            for (int j = 0; j < i; j++) {
                if (valley.saying[j] == meaning) {
                    alike++;
                    from = chosen[j];
                }
            }
            for (int word = from; word < valley.words.known; word++) {
                int longer = longs + valley.words.longs[word];
                if (open[word] && valley.words.meanings[word] == meaning && longer <= least && fits(i, word)) {
                    chosen[i] = word;
                    search(i + 1, longer, ways * (alike + 1) / timesChosen(i, word));
                }
            }
        }

        private void note(int longs, int ways) {
            if (longs < least) {
                least = longs;
                rows = 0;
                System.arraycopy(chosen, 0, first, 0, MOST_MEANT);
            }
            if (longs == least) {
                rows += ways;
            }
        }

        private boolean fits(int i, int word) {
            for (int slope = 0; slope < SLOPES; slope++) {
                int left = room[i * SLOPES + slope] - shakes[word * SLOPES + slope];
                if (left < 0) {
                    return false;
                }
                room[(i + 1) * SLOPES + slope] = left;
            }
            return true;
        }

        /** How often the word stands in the row up to i; 1 at least. */
        private int timesChosen(int i, int word) {
            int times = 1;
            for (int j = 0; j < i; j++) {
                if (chosen[j] == word) {
                    times++;
                }
            }
            return times;
        }
    }

    /** On which days talks can be held so that nothing slides. */
    private static final class Planning {
        final Valley valley;
        final Asker asker;
        final int[] room = new int[PLAN_DAYS * SLOPES];
        final boolean[] open = new boolean[PLAN_DAYS * MOST_TALKS];
        final int[] shakes = new int[PLAN_DAYS * MOST_TALKS * SLOPES];
        final int[] chosen = new int[MOST_TALKS];
        final int[] first = new int[MOST_TALKS];
        int days;
        int rows;

        Planning(Valley valley, Asker asker) {
            this.valley = valley;
            this.asker = asker;
        }

        /** As nothing slides, what is said leaves the snow of each day as it is. */
        void noteDay(int day, Pack pack) {
            asker.onDay(pack.day);
            for (int slope = 0; slope < SLOPES; slope++) {
                room[day * SLOPES + slope] = valley.roomOn(slope, pack);
            }
            for (int talk = 0; talk < valley.talkCount; talk++) {
                int at = day * MOST_TALKS + talk;
                asker.ofSaid(valley.talkWords[talk], valley.talkPlaces[talk], valley.talkLouds[talk]);
                open[at] = !asker.bars();
                for (int slope = 0; slope < SLOPES; slope++) {
                    shakes[at * SLOPES + slope] = asker.shakes(slope, pack.snow[slope]);
                }
            }
        }

        void begin(int n) {
            days = n;
            rows = 0;
        }

        private void search(int talk) {
            if (talk >= valley.talkCount) {
                if (rows == 0) {
                    System.arraycopy(chosen, 0, first, 0, MOST_TALKS);
                }
                rows++;
                return;
            }
            for (int day = 0; day < days; day++) {
                int at = day * MOST_TALKS + talk;
                if (open[at] && fits(day, at)) {
                    chosen[talk] = day;
                    strainBy(day, at, -1);
                    search(talk + 1);
                    strainBy(day, at, 1);
                }
            }
        }

        private boolean fits(int day, int at) {
            for (int slope = 0; slope < SLOPES; slope++) {
                if (room[day * SLOPES + slope] < shakes[at * SLOPES + slope]) {
                    return false;
                }
            }
            return true;
        }

        private void strainBy(int day, int at, int sign) {
            for (int slope = 0; slope < SLOPES; slope++) {
                room[day * SLOPES + slope] += sign * shakes[at * SLOPES + slope];
            }
        }
    }

    /** By which words a slope can be brought down. An option is a word times 3 and loud less 1. */
    private static final class Bringing {
        static final int OPTIONS = MOST_WORDS * LOUDEST;
        static final int COLUMNS = 4;
        static final int HARMFUL = -1;

        final Valley valley;
        final Asker asker;
        final boolean[] open = new boolean[OPTIONS];
        final boolean[] leads = new boolean[SLOPES];
        final int[] columnSnow = new int[SLOPES * COLUMNS];
        final int[] columnMost = new int[SLOPES * COLUMNS];
        final int[] columnsMade = new int[SLOPES];
        final int[] shakes = new int[SLOPES * COLUMNS * OPTIONS];
        final int[] snow = new int[(BRING_WORDS + 1) * SLOPES];
        final int[] strain = new int[(BRING_WORDS + 1) * SLOPES];
        final int[] columns = new int[BRING_WORDS * SLOPES];
        final int[] chosen = new int[BRING_WORDS];
        int options;
        int target;
        int from;

        Bringing(Valley valley, Asker asker) {
            this.valley = valley;
            this.asker = asker;
        }

        void begin(int slope, int place) {
            target = slope;
            from = place;
            options = valley.words.known * LOUDEST;
            asker.onDay(valley.pack.day);
            for (int option = 0; option < options; option++) {
                asker.ofSaid(option / LOUDEST, place, option % LOUDEST + 1);
                open[option] = !asker.bars();
            }
            Arrays.fill(columnsMade, 0);
            System.arraycopy(valley.pack.snow, 0, snow, 0, SLOPES);
            System.arraycopy(valley.pack.strain, 0, strain, 0, SLOPES);
            for (int i = SLOPES - 1; i >= 0; i--) {
                int below = valley.below[i];
                leads[i] = i == target || isSlope(below) && below > i && leads[below];
            }
        }

        /**
         * Whether the slope can be brought down by just that many words more; chosen has the first row then.
         * Behind a calm option, by which nothing slid, one of a lower number that is calm too is passed over: the
         * same two have been tried the other way round.
         */
        private boolean search(int level, int left, int calm) {
            lookUp(level);
            if (!canReach(level, left)) {
                return false;
            }
            for (int option = 0; option < options; option++) {
                if (!open[option] || left == 1 && !stirs(level, option)) {
                    continue;
                }
                int slid = speak(level, option);
                if (slid == HARMFUL || slid == 0 && (left == 1 || option < calm)) {
                    continue;
                }
                chosen[level] = option;
                if (left == 1) {
                    if ((slid >> target & 1) == 1) {
                        return true;
                    }
                } else {
                    if (search(level + 1, left - 1, slid == 0 ? option : 0)) {
                        return true;
                    }
                    lookUp(level);
                }
            }
            return false;
        }

        private void lookUp(int level) {
            for (int i = level * SLOPES; i < level * SLOPES + SLOPES; i++) {
                columns[i] = columnOf(i - level * SLOPES, snow[i]);
            }
        }

        /** Where it is kept how each option shakes a slope with so much snow. */
        private int columnOf(int slope, int deep) {
            int made = columnsMade[slope];
            for (int i = 0; i < COLUMNS && i < made; i++) {
                if (columnSnow[slope * COLUMNS + i] == deep) {
                    return slope * COLUMNS + i;
                }
            }
            int column = slope * COLUMNS + made % COLUMNS;
            columnsMade[slope]++;
            columnSnow[column] = deep;
            columnMost[column] = 0;
            for (int option = 0; option < options; option++) {
                if (open[option]) {
                    asker.ofSaid(option / LOUDEST, from, option % LOUDEST + 1);
                    int shake = asker.shakes(slope, deep);
                    shakes[column * OPTIONS + option] = shake;
                    columnMost[column] = Math.max(columnMost[column], shake);
                }
            }
            return column;
        }

        /** Only by a slope from which snow comes to the target can it be brought down. */
        private boolean canReach(int level, int left) {
            for (int slope = 0; slope < SLOPES; slope++) {
                int i = level * SLOPES + slope;
                int most = snow[i] + strain[i] + left * columnMost[columns[i]];
                if (leads[slope] && snow[i] > 0 && most > valley.hold[slope]) {
                    return true;
                }
            }
            return false;
        }

        private boolean stirs(int level, int option) {
            for (int slope = 0; slope < SLOPES; slope++) {
                int i = level * SLOPES + slope;
                int sum = snow[i] + strain[i] + shakes[columns[i] * OPTIONS + option];
                if (leads[slope] && snow[i] > 0 && sum > valley.hold[slope]) {
                    return true;
                }
            }
            return false;
        }

        /** What stands behind that option, on the next level: which slopes slid, a bit for each, or HARMFUL. */
        private int speak(int level, int option) {
            int next = (level + 1) * SLOPES;
            for (int slope = 0; slope < SLOPES; slope++) {
                int i = level * SLOPES + slope;
                snow[next + slope] = snow[i];
                strain[next + slope] = strain[i] + shakes[columns[i] * OPTIONS + option];
            }
            int slid = 0;
            for (int slope = 0; slope < SLOPES; slope++) {
                int i = next + slope;
                if (snow[i] == 0 || snow[i] + strain[i] <= valley.hold[slope]) {
                    continue;
                }
                int below = valley.below[slope];
                if (isSlope(below)) {
                    snow[next + below] = Math.min(MOST_SNOW, snow[next + below] + snow[i]);
                } else if (valley.gorge[slope] != 1) {
                    return HARMFUL;
                }
                snow[i] = 0;
                strain[i] = 0;
                slid |= 1 << slope;
            }
            return slid;
        }
    }

    /** Two by turns strain a slope; who makes it slide has lost. */
    private static final class Threat {
        // More than any shake, so that what a move leads to is still in the ring.
        static final int RING = 1024;

        final Valley valley;
        final Asker asker;
        final int[] shakes = new int[MOST_WORDS];
        final boolean[] wins = new boolean[RING];
        int winning;
        int lowest;

        Threat(Valley valley, Asker asker) {
            this.valley = valley;
            this.asker = asker;
        }

        /** A word that can't be said here shakes by 0. */
        void prepare(int slope, int place) {
            asker.onDay(valley.pack.day);
            for (int word = 0; word < valley.words.known; word++) {
                asker.ofSaid(word, place, 1);
                shakes[word] = asker.bars() ? 0 : asker.shakes(slope, valley.pack.snow[slope]);
            }
        }

        /** By how many words the first wins, with so much room left, and the lowest of them. */
        void play(int room) {
            for (int left = 0; left < room; left++) {
                wins[left % RING] = false;
                for (int word = 0; word < valley.words.known && !wins[left % RING]; word++) {
                    wins[left % RING] = isWinning(word, left);
                }
            }
            winning = 0;
            lowest = NONE;
            for (int word = valley.words.known - 1; word >= 0; word--) {
                if (isWinning(word, room)) {
                    winning++;
                    lowest = word;
                }
            }
        }

        private boolean isWinning(int word, int left) {
            int shake = shakes[word];
            return shake > 0 && shake <= left && !wins[(left - shake) % RING];
        }
    }
}
