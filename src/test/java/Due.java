/** Compares answers with those that are due, and ends the test with exit code 1 if one was wrong. */
final class Due {
    private static int asked = 0;
    private static int wrong = 0;

    private Due() {
    }

    static void is(String what, long got, long want) {
        asked++;
        if (got != want) {
            wrong++;
            System.out.println(what + " answered " + got + ", due is " + want);
        }
    }

    static void yes(String what, boolean got) {
        is(what, got ? 1 : 0, 1);
    }

    static void no(String what, boolean got) {
        is(what, got ? 1 : 0, 0);
    }

    /** The bytes written from one place on, each two hexadecimal digits. */
    static void written(String what, ScanDesk desk, int from, String hex) {
        for (int i = 0; 2 * i < hex.length(); i++) {
            int want = Integer.parseInt(hex.substring(2 * i, 2 * i + 2), 16);
            is(what + " out(" + (from + i) + ")", desk.out(from + i), want);
        }
    }

    static void end() {
        System.out.println(asked + " answers, " + wrong + " wrong");
        if (wrong != 0 || asked == 0) {
            System.exit(1);
        }
    }
}
