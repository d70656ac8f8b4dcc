/** Valleys that tests begin with. */
final class Valleys {
    private Valleys() {
    }

    /** Has something of everything, so that a change of anything can be seen. */
    static WordSlides busy() {
        WordSlides x = new WordSlides();
        x.word(5, 1, 0);
        x.word(2, 0, 1);
        x.word(9, 3, 0);
        x.often(0, 4);
        x.often(1, 2);
        slope(x, 0, 100, 400, 1, 0);
        slope(x, 1, 50, 500, WordSlides.NONE, 1);
        slope(x, 2, 300, 308, WordSlides.NONE, 1);
        slope(x, 3, 200, 203, WordSlides.NONE, 0);
        x.put(4, 6, 7);
        x.terms(0, 10);
        x.terms(1, 4);
        x.force(Texts.law(x, "falls 3;bars if word = 2 and loud = 3"));
        Texts.told(x, "dawn;say 9 at 0 loud 1");
        Texts.law(x, "falls x");
        x.feed(0, 0, 0, 0, 0);
        x.end(4);
        x.row();
        x.mean(0);
        x.mean(1);
        x.talk(0, 1, 1);
        x.seen(0, 300, 0);
        x.seen(0, 500, 1);
        // By 4 on each slope, then by 5: slope 3 slides into the village, slope 2 into the gorge.
        x.say(1, 0, 0, 1);
        x.say(3, 1, 0, 3);
        x.winter(7, 5);
        x.image(0);
        x.feed(1, 2, 3, 4, 5);
        x.end(7);
        return x;
    }

    static void slope(WordSlides x, int slope, int snow, int hold, int below, int gorge) {
        x.put(slope, 0, snow);
        x.put(slope, 1, hold);
        x.put(slope, 2, below);
        x.put(slope, 3, gorge);
    }

    /** All slopes lie above the gorge and slide by any word that shakes them by 1; two words, of LONG 5 and 9. */
    static WordSlides hanging() {
        WordSlides x = new WordSlides();
        x.word(5, 0, 0);
        x.word(9, 0, 0);
        for (int slope = 0; slope < 6; slope++) {
            slope(x, slope, 100, 100, WordSlides.NONE, 1);
        }
        return x;
    }

    /** All slopes have slid, by 4 of each person. */
    static WordSlides slid() {
        WordSlides x = hanging();
        for (int slope = 0; slope < 6; slope++) {
            x.put(slope, 1, 123);
        }
        for (int person = 0; person < 6; person++) {
            x.say(person, 0, 0, 1);
        }
        return x;
    }

    /** Two words that shake all slopes, with SNOW 100, by 4 and 8; HOLD leaves room for 9, by which the first wins. */
    static WordSlides threatened() {
        WordSlides x = hanging();
        for (int slope = 0; slope < 6; slope++) {
            x.put(slope, 1, 109);
        }
        return x;
    }

    static WordSlides withWords(int n) {
        WordSlides x = new WordSlides();
        for (int i = 0; i < n; i++) {
            x.word(1 + i % 9, i % 10, i % 8);
        }
        return x;
    }

    static WordSlides bothImages() {
        WordSlides x = busy();
        x.image(1);
        x.put(5, 0, 77);
        return x;
    }
}
