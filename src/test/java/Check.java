import java.util.Arrays;

/** Counts the answers that are not as due, prints each, and ends the program by them. */
final class Check {
    private int wrong;

    void same(String what, long got, long want) {
        if (got != want) {
            tell(what, String.valueOf(got), String.valueOf(want));
        }
    }

    void same(String what, boolean got, boolean want) {
        if (got != want) {
            tell(what, String.valueOf(got), String.valueOf(want));
        }
    }

    void bytes(String what, int[] got, int... want) {
        if (!Arrays.equals(got, want)) {
            tell(what, Arrays.toString(got), Arrays.toString(want));
        }
    }

    private void tell(String what, String got, String want) {
        wrong++;
        System.out.println(what + ": answered " + got + ", due is " + want);
    }

    int wrong() {
        return wrong;
    }

    void end() {
        System.out.println(wrong == 0 ? "all answers are as due" : wrong + " answers are not as due");
        if (wrong != 0) {
            System.exit(1);
        }
    }
}
