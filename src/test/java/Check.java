/** Counts and prints the answers that are not as due. */
final class Check {
    private static int checked;
    private static int wrong;

    private Check() {
    }

    static void due(String what, int got, int want) {
        checked++;
        if (got != want) {
            wrong++;
            System.out.println(what + " answered " + got + ", due is " + want);
        }
    }

    /** Each call's answer, one after the other. */
    static void all(String what, int[] got, int... want) {
        due(what + ": how many answers", got.length, want.length);
        for (int i = 0; i < Math.min(got.length, want.length); i++) {
            due(what + ", answer " + i, got[i], want[i]);
        }
    }

    static int[] answers(int... got) {
        return got;
    }

    static void end() {
        System.out.println(checked + " answers looked at, " + wrong + " not as due");
        if (wrong != 0 || checked == 0) {
            System.exit(1);
        }
    }
}
