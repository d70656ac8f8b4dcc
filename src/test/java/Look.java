import java.util.LinkedHashMap;
import java.util.Map;

/** All that can be seen of an object without changing it, by name, in some 150 calls; how calls were refused aside. */
final class Look {
    private static final String[] SLOPE = {"snow", "hold", "below", "gorge", "far0", "far1", "far2", "far3", "strain", "slid"};
    private static final String[] COUNT = {"words", "meanings", "talks", "seen", "laws", "undo", "tape", null, null, null,
        null, null, "force", "harm", "down", "day", "mood"};

    private Look() {
    }

    static Map<String, Integer> at(WordSlides x) {
        Map<String, Integer> all = new LinkedHashMap<>();
        for (int what = 0; what < COUNT.length; what++) {
            if (COUNT[what] != null) {
                all.put(COUNT[what], x.count(what));
            }
        }
        for (int slope = 0; slope < 6; slope++) {
            for (int what = 0; what < SLOPE.length; what++) {
                all.put(SLOPE[what] + " of slope " + slope, x.of(slope, what));
            }
            shares(x, slope, all);
            for (int what = 0; what < 2; what++) {
                all.put("weather " + what + " of slope " + slope, x.weather(slope, what));
                all.put("holds " + what + " of slope " + slope, x.holds(slope, what));
                all.put("winter " + what + " of slope " + slope, x.drawn(slope, what));
            }
        }
        for (int word = 0; word < x.count(0); word++) {
            for (int what = 0; what < 4; what++) {
                all.put("at " + what + " of word " + word, x.at(word, what));
            }
            all.put("barred word " + word, x.asks(word, 0, 3, 0, 1));
        }
        all.put("murmur", x.murmur());
        all.put("fault", x.fault());
        all.put("stopped", x.stopped());
        all.put("signs", x.signs());
        all.put("saying", x.saying(0, 1, 0));
        all.put("rows of saying", x.saying(0, 1, 1));
        all.put("plan", x.plan(2, WordSlides.NONE));
        return all;
    }

    private static void shares(WordSlides x, int slope, Map<String, Integer> all) {
        if (all.get("slid of slope " + slope) == 0) {
            return;
        }
        for (int person = 0; person < 6; person++) {
            all.put("share " + person + " of slope " + slope, x.share(slope, person, 0));
        }
        all.put("lower share of slope " + slope, x.share(slope, 0, 1));
    }
}
