/** Puts a text on a tape that is empty. */
final class Texts {
    private Texts() {
    }

    private static int[] five(String text, int from) {
        int[] v = new int[5];
        for (int j = 0; j < 20; j++) {
            v[j / 4] = v[j / 4] << 8 | (from + j < text.length() ? text.charAt(from + j) : ' ');
        }
        return v;
    }

    static void feed(WordSlides x, String text) {
        for (int i = 0; i < text.length(); i += 20) {
            int[] v = five(text, i);
            x.feed(v[0], v[1], v[2], v[3], v[4]);
        }
        x.end(text.length());
    }

    static void feed(Naive y, String text) {
        for (int i = 0; i < text.length(); i += 20) {
            y.feed(five(text, i));
        }
        y.end(text.length());
    }

    static int law(WordSlides x, String text) {
        feed(x, text);
        return x.law();
    }

    static int told(WordSlides x, String text) {
        feed(x, text);
        return x.told();
    }
}
