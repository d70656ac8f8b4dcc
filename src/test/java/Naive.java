import java.util.ArrayList;
import java.util.Arrays;
import java.util.List;
import java.util.PriorityQueue;

/** The document once more, as plainly as it goes and without a thought of speed, to compare the class with. */
final class Naive {
    static final int NONE = -1;

    /** What images keep. */
    static final class State {
        int[] snow = new int[6];
        int[] hold = {500, 500, 500, 500, 500, 500};
        int[] below = {-1, -1, -1, -1, -1, -1};
        int[] gorge = new int[6];
        int[][] far = new int[6][4];
        int[][] by = new int[6][6];
        int[][] latest = new int[6][6];
        int[] slid = new int[6];
        int harm, down, day, mood;
        List<int[]> words = new ArrayList<>();
        List<Integer> saying = new ArrayList<>();
        List<int[]> talks = new ArrayList<>();
        List<int[]> seen = new ArrayList<>();
        List<List<NaiveText.Clause>> laws = new ArrayList<>();
        int force = -1;

        State() {
            for (int[] row : far) {
                Arrays.fill(row, 1);
            }
        }

        State copy() {
            State c = new State();
            c.snow = snow.clone();
            c.hold = hold.clone();
            c.below = below.clone();
            c.gorge = gorge.clone();
            c.slid = slid.clone();
            for (int i = 0; i < 6; i++) {
                c.far[i] = far[i].clone();
                c.by[i] = by[i].clone();
                c.latest[i] = latest[i].clone();
            }
            c.harm = harm;
            c.down = down;
            c.day = day;
            c.mood = mood;
            for (int[] w : words) {
                c.words.add(w.clone());
            }
            c.saying.addAll(saying);
            c.talks.addAll(talks);
            c.seen.addAll(seen);
            c.laws.addAll(laws);
            c.force = force;
            return c;
        }

        /** Takes back from there what saying and dawns change. */
        void takeMoving(State o) {
            snow = o.snow.clone();
            slid = o.slid.clone();
            for (int i = 0; i < 6; i++) {
                by[i] = o.by[i].clone();
                latest[i] = o.latest[i].clone();
            }
            harm = o.harm;
            down = o.down;
            day = o.day;
        }

        int strain(int slope) {
            return Arrays.stream(by[slope]).sum();
        }

        List<NaiveText.Clause> law() {
            return force < 0 ? List.of() : laws.get(force);
        }

        /** null without. */
        Integer tells(String kind, NaiveText.Known known) {
            Integer told = null;
            for (NaiveText.Clause c : law()) {
                if (!c.kind.equals(kind)) {
                    continue;
                }
                try {
                    if (c.test != null && !c.test.so(known)) {
                        continue;
                    }
                    told = c.sums.isEmpty() ? 1 : (int) c.sums.get(0).value(known);
                } catch (NaiveText.Broken broken) {
                    continue;
                }
            }
            return told;
        }

        NaiveText.Known lawKnown(int word, int place, int loud, int slope) {
            return (name, s) -> {
                switch (name) {
                    case "word": return word;
                    case "long": return word < 0 ? -1 : words.get(word)[0];
                    case "r": return word < 0 ? -1 : words.get(word)[1];
                    case "loud": return loud;
                    case "place": return place;
                    case "far": return word < 0 || slope < 0 ? -1 : far[slope][place];
                    case "slope": return slope;
                    case "snow": return slope < 0 ? -1 : snow[slope];
                    case "day": return day;
                    case "mood": return mood;
                    default: throw new IllegalStateException(name);
                }
            };
        }

        int shakes(int word, int place, int loud, int slope) {
            Integer told = tells("shakes", lawKnown(word, place, loud, slope));
            if (told == null) {
                return Math.max(0, words.get(word)[0] * loud - far[slope][place]);
            }
            return Math.max(0, Math.min(999, told));
        }

        boolean barred(int word, int place, int loud) {
            return tells("bars", lawKnown(word, place, loud, -1)) != null;
        }

        int weather(String kind, int slope, int without) {
            Integer told = tells(kind, lawKnown(-1, -1, -1, slope));
            return told == null ? without : Math.max(0, Math.min(99, told));
        }

        int slides() {
            int n = 0;
            while (true) {
                int which = -1;
                for (int i = 5; i >= 0; i--) {
                    if (snow[i] > 0 && snow[i] + strain(i) > hold[i]) {
                        which = i;
                    }
                }
                if (which < 0) {
                    return n;
                }
                n++;
                if (below[which] != -1) {
                    snow[below[which]] = Math.min(9999, snow[below[which]] + snow[which]);
                } else if (gorge[which] == 1) {
                    down += snow[which];
                } else {
                    harm += snow[which];
                }
                snow[which] = 0;
                latest[which] = by[which].clone();
                by[which] = new int[6];
                slid[which]++;
            }
        }

        int sayIt(int person, int word, int place, int loud) {
            int[] more = new int[6];
            for (int i = 0; i < 6; i++) {
                more[i] = shakes(word, place, loud, i);
            }
            for (int i = 0; i < 6; i++) {
                by[i][person] += more[i];
            }
            return slides();
        }

        int dawnIt() {
            day++;
            int[] next = new int[6];
            for (int i = 0; i < 6; i++) {
                int sum = snow[i] + weather("falls", i, 10) - weather("thaws", i, 0);
                next[i] = Math.max(0, Math.min(9999, sum));
            }
            snow = next;
            by = new int[6][6];
            return slides();
        }
    }

    State now = new State();
    State[] images = new State[2];
    List<State> undo = new ArrayList<>();
    List<Integer> undoKinds = new ArrayList<>();
    List<Integer> tape = new ArrayList<>();
    int murmur, fault = NONE, stopped = NONE, status;
    int[] refused = new int[7];
    State winter;

    private int no(int by) {
        status = by;
        refused[-by]++;
        return by;
    }

    private int yes(int answer) {
        status = 0;
        return answer;
    }

    private static boolean in(int v, int a, int b) {
        return a <= v && v <= b;
    }

    private boolean isWord(int w) {
        return in(w, 0, now.words.size() - 1);
    }

    private void keep(int kind) {
        undo.add(now.copy());
        undoKinds.add(kind);
        if (undo.size() > 16) {
            undo.remove(0);
            undoKinds.remove(0);
        }
    }

    private void noUndo() {
        undo.clear();
        undoKinds.clear();
    }

    int put(int slope, int what, int value) {
        boolean can = in(slope, 0, 5) && in(what, 0, 7);
        can &= what != 0 || in(value, 0, 9999);
        can &= what != 1 || in(value, 1, 9999);
        can &= what != 2 || value == -1 || in(value, slope + 1, 5);
        can &= what != 3 || in(value, 0, 1);
        can &= what < 4 || in(value, 0, 9);
        if (!can) {
            return no(-1);
        }
        int was = of(slope, what);
        int[][] rows = {now.snow, now.hold, now.below, now.gorge};
        if (what < 4) {
            rows[what][slope] = value;
        } else {
            now.far[slope][what - 4] = value;
        }
        noUndo();
        return yes(was);
    }

    int of(int slope, int what) {
        if (!in(slope, 0, 5) || !in(what, 0, 9)) {
            return NONE;
        }
        int[] f = now.far[slope];
        return new int[] {now.snow[slope], now.hold[slope], now.below[slope], now.gorge[slope], f[0], f[1], f[2], f[3],
            now.strain(slope), now.slid[slope]}[what];
    }

    int word(int l, int r, int m) {
        if (!in(l, 1, 9) || !in(r, 0, 9) || !in(m, 0, 7)) {
            return no(-1);
        }
        if (now.words.size() == 16) {
            return no(-5);
        }
        now.words.add(new int[] {l, r, m, 0});
        return yes(now.words.size() - 1);
    }

    int at(int word, int what) {
        return isWord(word) && in(what, 0, 3) ? now.words.get(word)[what] : NONE;
    }

    int often(int word, int value) {
        if (!in(value, 0, 99)) {
            return no(-1);
        }
        if (!isWord(word)) {
            return no(-2);
        }
        int was = now.words.get(word)[3];
        now.words.get(word)[3] = value;
        return yes(was);
    }

    int terms(int what, int value) {
        if (!in(what, 0, 1) || !in(value, 0, what == 0 ? 999 : 9)) {
            return no(-1);
        }
        int was = what == 0 ? now.day : now.mood;
        if (what == 0) {
            now.day = value;
        } else {
            now.mood = value;
        }
        noUndo();
        return yes(was);
    }

    int feed(int... five) {
        if (tape.size() + 20 > 400) {
            return NONE;
        }
        for (int x : five) {
            for (int s = 24; s >= 0; s -= 8) {
                tape.add(x >>> s & 255);
            }
        }
        return tape.size();
    }

    int end(int n) {
        if (!in(n, 0, tape.size())) {
            return NONE;
        }
        tape = new ArrayList<>(tape.subList(0, n));
        return n;
    }

    int row() {
        if (tape.isEmpty()) {
            return no(-6);
        }
        int came = 0;
        murmur = 0;
        for (int i = 0; i < tape.size(); i += 3) {
            boolean can = i + 3 <= tape.size() && now.words.size() < 16;
            can = can && in(tape.get(i), 1, 9) && in(tape.get(i + 1), 0, 9) && in(tape.get(i + 2), 0, 7);
            if (can) {
                now.words.add(new int[] {tape.get(i), tape.get(i + 1), tape.get(i + 2), 0});
                came++;
            } else {
                murmur++;
            }
        }
        tape.clear();
        return yes(came);
    }

    private List<NaiveText.Clause> read(boolean law) {
        try {
            List<NaiveText.Clause> clauses = new NaiveText(tape, law).clauses();
            fault = NONE;
            return clauses;
        } catch (NaiveText.Fault f) {
            fault = f.place;
            return null;
        } finally {
            tape.clear();
        }
    }

    int law() {
        if (now.laws.size() == 6) {
            tape.clear();
            return no(-5);
        }
        List<NaiveText.Clause> clauses = read(true);
        if (clauses == null) {
            return no(-6);
        }
        now.laws.add(clauses);
        return yes(now.laws.size() - 1);
    }

    int told() {
        stopped = NONE;
        List<NaiveText.Clause> clauses = read(false);
        if (clauses == null) {
            return no(-6);
        }
        State ahead = now.copy();
        List<State> undoAhead = new ArrayList<>(undo);
        List<Integer> kindsAhead = new ArrayList<>(undoKinds);
        int[] n = new int[2];
        NaiveText.Known known = (name, s) -> {
            switch (name) {
                case "day": return now.day;
                case "words": return now.words.size();
                case "done": return n[0];
                case "slid": return n[1];
                case "harm": return now.harm - ahead.harm;
                case "snow": return now.snow[s];
                case "strain": return now.strain(s);
                default: throw new IllegalStateException(name);
            }
        };
        for (int c = 0; c < clauses.size(); c++) {
            for (int t = 0; t < clauses.get(c).times; t++) {
                Integer slides = tell(clauses.get(c), known);
                if (slides == null) {
                    stopped = c;
                    now = ahead;
                    undo = undoAhead;
                    undoKinds = kindsAhead;
                    return no(-3);
                }
                if (slides >= 0) {
                    n[0]++;
                    n[1] += slides;
                }
            }
        }
        return yes(n[0]);
    }

    /** How many slides; -1, if it is not run, null, if it can't be. */
    private Integer tell(NaiveText.Clause c, NaiveText.Known known) {
        try {
            if (c.test != null && !c.test.so(known)) {
                return -1;
            }
        } catch (NaiveText.Broken b) {
            return -1;
        }
        if (c.kind.equals("dawn")) {
            if (now.day == 999) {
                return null;
            }
            keep(1);
            return now.dawnIt();
        }
        int[] v = new int[3];
        try {
            for (int i = 0; i < 3; i++) {
                v[i] = (int) c.sums.get(i).value(known);
            }
        } catch (NaiveText.Broken b) {
            return null;
        }
        if (!isWord(v[0]) || !in(v[1], 0, 3) || !in(v[2], 1, 3) || now.barred(v[0], v[1], v[2])) {
            return null;
        }
        keep(0);
        return now.sayIt(0, v[0], v[1], v[2]);
    }

    int force(int law) {
        if (law != NONE && !in(law, 0, now.laws.size() - 1)) {
            return no(-2);
        }
        int was = now.force;
        now.force = law;
        return yes(was);
    }

    int asks(int word, int place, int loud, int slope, int what) {
        if (!isWord(word) || !in(place, 0, 3) || !in(loud, 1, 3) || !in(what, 0, 1)) {
            return NONE;
        }
        if (what == 1) {
            return now.barred(word, place, loud) ? 1 : 0;
        }
        return in(slope, 0, 5) ? now.shakes(word, place, loud, slope) : NONE;
    }

    int weather(int slope, int what) {
        if (!in(slope, 0, 5) || !in(what, 0, 1)) {
            return NONE;
        }
        return what == 0 ? now.weather("falls", slope, 10) : now.weather("thaws", slope, 0);
    }

    int say(int person, int word, int place, int loud) {
        if (!in(person, 0, 5) || !in(place, 0, 3) || !in(loud, 1, 3)) {
            return no(-1);
        }
        if (!isWord(word)) {
            return no(-2);
        }
        if (now.barred(word, place, loud)) {
            return no(-3);
        }
        keep(0);
        return yes(now.sayIt(person, word, place, loud));
    }

    int dawn() {
        if (now.day == 999) {
            return no(-3);
        }
        keep(1);
        return yes(now.dawnIt());
    }

    int undo() {
        if (undo.isEmpty()) {
            return no(-3);
        }
        now.takeMoving(undo.remove(undo.size() - 1));
        return yes(undoKinds.remove(undoKinds.size() - 1));
    }

    int share(int slope, int person, int what) {
        if (!in(slope, 0, 5) || !in(person, 0, 5) || !in(what, 0, 1)) {
            return NONE;
        }
        int all = Arrays.stream(now.latest[slope]).sum();
        if (now.slid[slope] == 0 || all == 0) {
            return NONE;
        }
        int a = now.latest[slope][person];
        int g = java.math.BigInteger.valueOf(a).gcd(java.math.BigInteger.valueOf(all)).intValue();
        return what == 0 ? a / g : all / g;
    }

    int mean(int meaning) {
        if (!in(meaning, 0, 7)) {
            return no(-1);
        }
        if (now.saying.size() == 5) {
            return no(-5);
        }
        now.saying.add(meaning);
        return yes(now.saying.size());
    }

    int hush() {
        int had = now.saying.size();
        now.saying.clear();
        return had;
    }

    int saying(int place, int loud, int what) {
        if (!in(place, 0, 3) || !in(loud, 1, 3) || !in(what, 0, 1 + now.saying.size())) {
            return NONE;
        }
        List<int[]> best = new ArrayList<>();
        int least = Integer.MAX_VALUE;
        int size = now.words.size();
        long all = 1;
        for (int i = 0; i < now.saying.size(); i++) {
            all *= size;
        }
        for (long code = 0; code < all; code++) {
            int[] row = new int[now.saying.size()];
            long rest = code;
            int longs = 0;
            boolean can = true;
            for (int i = row.length - 1; i >= 0; i--) {
                row[i] = (int) (rest % size);
                rest /= size;
                can &= now.words.get(row[i])[2] == now.saying.get(i);
                longs += now.words.get(row[i])[0];
            }
            if (!can || longs > least) {
                continue;
            }
            State paper = now.copy();
            for (int w : row) {
                can = can && !now.barred(w, place, loud) && paper.sayIt(0, w, place, loud) == 0;
            }
            if (!can) {
                continue;
            }
            if (longs < least) {
                best.clear();
                least = longs;
            }
            best.add(row);
        }
        if (what == 1) {
            return best.size();
        }
        return best.isEmpty() ? NONE : what == 0 ? least : best.get(0)[what - 2];
    }

    int talk(int word, int place, int loud) {
        if (!in(place, 0, 3) || !in(loud, 1, 3)) {
            return no(-1);
        }
        if (!isWord(word)) {
            return no(-2);
        }
        if (now.talks.size() == 6) {
            return no(-5);
        }
        now.talks.add(new int[] {word, place, loud});
        return yes(now.talks.size() - 1);
    }

    int cancel() {
        int had = now.talks.size();
        now.talks.clear();
        return had;
    }

    int plan(int n, int i) {
        if (!in(n, 1, 4) || !in(i, -1, now.talks.size() - 1)) {
            return NONE;
        }
        int all = 1;
        for (int k = 0; k < now.talks.size(); k++) {
            all *= n;
        }
        int rows = 0;
        int[] first = null;
        for (int code = 0; code < all; code++) {
            int[] days = new int[now.talks.size()];
            int rest = code;
            for (int k = days.length - 1; k >= 0; k--) {
                days[k] = rest % n;
                rest /= n;
            }
            if (goes(n, days)) {
                rows++;
                first = first == null ? days : first;
            }
        }
        return rows == 0 ? NONE : i == NONE ? rows : first[i];
    }

    private boolean goes(int n, int[] days) {
        State paper = now.copy();
        for (int d = 0; d < n; d++) {
            if (d > 0 && (paper.day == 999 || paper.dawnIt() > 0)) {
                return false;
            }
            for (int k = 0; k < days.length; k++) {
                int[] t = now.talks.get(k);
                if (days[k] == d && (paper.barred(t[0], t[1], t[2]) || paper.sayIt(0, t[0], t[1], t[2]) > 0)) {
                    return false;
                }
            }
        }
        return true;
    }

    int bring(int slope, int place, int i) {
        if (!in(slope, 0, 5) || !in(place, 0, 3) || i < -1) {
            return NONE;
        }
        for (int n = 1; n <= 3; n++) {
            int[] row = new int[n];
            if (bringBy(now, slope, place, row, 0)) {
                return i == NONE ? n : i < n ? row[i] : NONE;
            }
        }
        return NONE;
    }

    private boolean bringBy(State from, int slope, int place, int[] row, int k) {
        for (int o = 0; o < now.words.size() * 3; o++) {
            if (from.barred(o / 3, place, o % 3 + 1)) {
                continue;
            }
            State paper = from.copy();
            paper.sayIt(0, o / 3, place, o % 3 + 1);
            if (paper.harm > now.harm) {
                continue;
            }
            row[k] = o;
            if (k == row.length - 1 ? paper.slid[slope] > from.slid[slope] : bringBy(paper, slope, place, row, k + 1)) {
                return true;
            }
        }
        return false;
    }

    int threat(int slope, int place, int what) {
        if (!in(slope, 0, 5) || !in(place, 0, 3) || !in(what, 0, 2) || now.snow[slope] == 0) {
            return NONE;
        }
        int strain = now.strain(slope);
        int most = now.hold[slope] - now.snow[slope];
        if (strain > most) {
            return NONE;
        }
        // wins[x]: who is to say a word at that strain wins; beyond most the other one has lost.
        boolean[] wins = new boolean[most + 1000];
        Arrays.fill(wins, true);
        List<Integer> by = new ArrayList<>();
        for (int x = most; x >= strain; x--) {
            by.clear();
            for (int w = 0; w < now.words.size(); w++) {
                int shake = now.shakes(w, place, 1, slope);
                if (shake > 0 && !now.barred(w, place, 1) && !wins[x + shake]) {
                    by.add(w);
                }
            }
            wins[x] = !by.isEmpty();
        }
        return what == 0 ? (by.isEmpty() ? 0 : 1) : what == 1 ? by.size() : by.isEmpty() ? NONE : by.get(0);
    }

    int seen(int slope, int sum, int slid) {
        if (!in(slope, 0, 5) || !in(sum, 1, 9999) || !in(slid, 0, 1)) {
            return no(-1);
        }
        if (now.seen.size() == 10) {
            return no(-5);
        }
        now.seen.add(new int[] {slope, sum, slid});
        return yes(now.seen.size());
    }

    int forget() {
        int had = now.seen.size();
        now.seen.clear();
        return had;
    }

    int holds(int slope, int what) {
        if (!in(slope, 0, 5) || !in(what, 0, 3)) {
            return NONE;
        }
        List<Integer> can = new ArrayList<>();
        for (int h = 1; h <= 9999; h++) {
            boolean fits = true;
            for (int[] s : now.seen) {
                fits &= s[0] != slope || (s[2] == 1) == (h < s[1]);
            }
            if (fits) {
                can.add(h);
            }
        }
        int n = can.size();
        if (what == 2) {
            return n;
        }
        if (n == 0 || what == 3 && n == 1) {
            return NONE;
        }
        if (what < 2) {
            return can.get(what == 0 ? 0 : n - 1);
        }
        int best = NONE;
        int fewest = Integer.MAX_VALUE;
        int below = 0;
        for (int x = 1; x <= 9999; x++) {
            while (below < n && can.get(below) < x) {
                below++;
            }
            if (Math.max(below, n - below) < fewest) {
                fewest = Math.max(below, n - below);
                best = x;
            }
        }
        return best;
    }

    int signs() {
        PriorityQueue<Integer> q = new PriorityQueue<>();
        for (int[] w : now.words) {
            if (w[3] > 0) {
                q.add(w[3]);
            }
        }
        if (q.size() == 1) {
            return q.poll();
        }
        int all = 0;
        while (q.size() > 1) {
            int sum = q.poll() + q.poll();
            all += sum;
            q.add(sum);
        }
        return all;
    }

    private long s;

    private int draw(int m) {
        s = (s * 1103 + 12345) % 1000003;
        return (int) (s % m);
    }

    int winter(int seed, int n) {
        if (!in(seed, 0, 1000000) || !in(n, 1, 100)) {
            return no(-1);
        }
        winter = now.copy();
        winter.slid = new int[6];
        s = seed;
        for (int d = 0; d < n; d++) {
            if (!now.words.isEmpty()) {
                int w = draw(now.words.size());
                int p = draw(4);
                int l = draw(3) + 1;
                if (!winter.barred(w, p, l)) {
                    winter.sayIt(0, w, p, l);
                }
            }
            if (winter.day == 999) {
                break;
            }
            winter.dawnIt();
        }
        return yes(winter.harm - now.harm);
    }

    int drawn(int slope, int what) {
        if (winter == null || !in(slope, 0, 5) || !in(what, 0, 1)) {
            return NONE;
        }
        return what == 0 ? winter.snow[slope] : winter.slid[slope];
    }

    int image(int k) {
        if (!in(k, 0, 1)) {
            return no(-1);
        }
        images[k] = now.copy();
        return yes(0);
    }

    int back(int k) {
        if (!in(k, 0, 1)) {
            return no(-1);
        }
        if (images[k] == null) {
            return no(-2);
        }
        now = images[k].copy();
        noUndo();
        return yes(0);
    }

    int count(int what) {
        if (!in(what, 0, 16)) {
            return NONE;
        }
        return new int[] {now.words.size(), now.saying.size(), now.talks.size(), now.seen.size(), now.laws.size(),
            undo.size(), tape.size(), refused[1], refused[2], refused[3], refused[5], refused[6], now.force, now.harm,
            now.down, now.day, now.mood}[what];
    }
}
