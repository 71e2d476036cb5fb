import java.util.Arrays;

/** Counts the answers that are not as due, prints each, and ends the program by them. */
final class Check {
    private final String heading;
    private int made;
    private int wrong;

    Check(String heading) {
        this.heading = heading;
    }

    void same(String what, long got, long want) {
        made++;
        if (got != want) {
            tell(what, String.valueOf(got), String.valueOf(want));
        }
    }

    void same(String what, boolean got, boolean want) {
        made++;
        if (got != want) {
            tell(what, String.valueOf(got), String.valueOf(want));
        }
    }

    void bytes(String what, int[] got, int... want) {
        made++;
        if (!Arrays.equals(got, want)) {
            tell(what, Arrays.toString(got), Arrays.toString(want));
        }
    }

    /** Something else than an answer was wrong. */
    void fault(String what) {
        wrong++;
        System.out.println(heading + ": " + what);
    }

    private void tell(String what, String got, String want) {
        fault(what + ": answered " + got + ", due is " + want);
    }

    int made() {
        return made;
    }

    int wrong() {
        return wrong;
    }

    void end() {
        System.out.println(wrong == 0 ? "all answers are as due" : wrong + " answers are not as due");
        if (wrong != 0) {
            System.exit(1);
        }
    }
}
