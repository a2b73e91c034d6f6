/** Counts and prints the answers that are not as due. */
final class Checks {
    private int wrong;
    private long asked;

    void due(String what, long got, long want) {
        asked++;
        if (got != want) {
            wrong++;
            System.out.println(what + " answered " + got + ", due is " + want);
        }
    }

    void due(String what, byte[] got, byte[] want) {
        asked++;
        if (!java.util.Arrays.equals(got, want)) {
            wrong++;
            System.out.println(what + " was " + java.util.Arrays.toString(got) + ", due is "
                    + java.util.Arrays.toString(want));
        }
    }

    void holds(String what, boolean truth) {
        due(what, truth ? 1 : 0, 1);
    }

    int wrongSoFar() {
        return wrong;
    }

    long askedSoFar() {
        return asked;
    }

    void finish() {
        System.out.println(asked + " answers, " + wrong + " not as due");
        if (wrong != 0 || asked == 0) {
            System.exit(1);
        }
    }
}
