/** Counts answers that are not the ones that are due. */
final class Checks {
    private final String name;
    private int right;
    private int wrong;

    Checks(String name) {
        this.name = name;
    }

    void due(String call, int got, int want) {
        if (got == want) {
            right++;
        } else {
            wrong++;
            System.out.println(name + ": " + call + " answered " + got + ", due is " + want);
        }
    }

    void finish() {
        System.out.println(name + ": " + right + " answers as due, " + wrong + " not");
        if (wrong != 0 || right == 0) {
            System.exit(1);
        }
    }
}
