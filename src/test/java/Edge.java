import java.util.Map;
import java.util.Objects;
import java.util.function.Supplier;
import java.util.function.ToIntBiFunction;
import java.util.function.ToIntFunction;

/** What is asked of a call at an edge: each on an object of its own, made anew. */
final class Edge {
    /** Where count() tells how many calls were refused by -1, -2, -3, -5, -6. */
    private static final int[] REFUSED_BY = {-1, -2, -3, -5, -6};
    private static final int FIRST_REFUSED = 7;

    private final Checks checks;

    Edge(Checks checks) {
        this.checks = checks;
    }

    /** Refused by that, told by status() and counted once; all else stays, but what begins with one of those names. */
    void refused(String name, int by, Supplier<WordSlides> made, ToIntFunction<WordSlides> call, String... but) {
        WordSlides x = made.get();
        int[] ahead = refusals(x);
        Map<String, Integer> look = Look.at(x);
        checks.due(name, call.applyAsInt(x), by);
        checks.due(name + ", status", x.status(), by);
        int[] behind = refusals(x);
        for (int i = 0; i < REFUSED_BY.length; i++) {
            checks.due(name + ", refused by " + REFUSED_BY[i], behind[i] - ahead[i], REFUSED_BY[i] == by ? 1 : 0);
        }
        stays(name, look, Look.at(x), but);
    }

    /** NONE from a call that is never refused: nothing changes at all, status() neither. */
    void none(String name, Supplier<WordSlides> made, ToIntFunction<WordSlides> call) {
        tells(name, WordSlides.NONE, made, call);
    }

    /** A call that only tells: it answers that, and nothing changes at all. */
    void tells(String name, int answer, Supplier<WordSlides> made, ToIntFunction<WordSlides> call) {
        WordSlides x = made.get();
        int[] ahead = refusals(x);
        int status = x.status();
        Map<String, Integer> look = Look.at(x);
        checks.due(name, call.applyAsInt(x), answer);
        checks.due(name + ", status", x.status(), status);
        int[] behind = refusals(x);
        for (int i = 0; i < REFUSED_BY.length; i++) {
            checks.due(name + ", refused by " + REFUSED_BY[i], behind[i], ahead[i]);
        }
        stays(name, look, Look.at(x));
    }

    /** A call's argument: least and most are taken, what is beyond them is refused by that, and then nothing changes. */
    void bounds(String name, int by, int least, int most, Supplier<WordSlides> made, ToIntBiFunction<WordSlides, Integer> call) {
        for (int value : new int[] {least, most}) {
            WordSlides x = made.get();
            x.put(9, 9, 9);
            call.applyAsInt(x, value);
            checks.due(name + " " + value + " is taken", x.status(), 0);
        }
        for (int value : beyond(least, most)) {
            refused(name + " " + value, by, made, x -> call.applyAsInt(x, value));
        }
    }

    /** A call's argument, if the call only tells: not NONE for least and most, NONE beyond them. */
    void tellsWithin(String name, int least, int most, Supplier<WordSlides> made, ToIntBiFunction<WordSlides, Integer> call) {
        for (int value : new int[] {least, most}) {
            checks.due(name + " " + value + " is told", call.applyAsInt(made.get(), value) == WordSlides.NONE ? 0 : 1, 1);
        }
        for (int value : beyond(least, most)) {
            none(name + " " + value, made, x -> call.applyAsInt(x, value));
        }
    }

    private static int[] beyond(int least, int most) {
        return new int[] {least - 1, most + 1, Integer.MIN_VALUE, Integer.MAX_VALUE};
    }

    private static int[] refusals(WordSlides x) {
        int[] all = new int[REFUSED_BY.length];
        for (int i = 0; i < all.length; i++) {
            all[i] = x.count(FIRST_REFUSED + i);
        }
        return all;
    }

    void stays(String name, Map<String, Integer> ahead, Map<String, Integer> behind, String... but) {
        int changed = ahead.size() == behind.size() ? 0 : 1;
        for (String each : ahead.keySet()) {
            boolean free = false;
            for (String start : but) {
                free |= each.startsWith(start);
            }
            if (!free && !Objects.equals(ahead.get(each), behind.get(each))) {
                changed++;
                System.out.println(name + ": " + each + " was " + ahead.get(each) + " and is " + behind.get(each));
            }
        }
        checks.due(name + ", changed", changed, 0);
    }
}
