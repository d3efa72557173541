/** All that a desk shows without being changed, as one text: what a refused call has to leave as it was. */
final class State {
    private State() {
    }

    static String of(ScanDesk d) {
        StringBuilder all = new StringBuilder();
        for (int what = 0; what < 10; what++) {
            all.append(d.look(what)).append(' ');
        }
        all.append(d.errorAt()).append(' ');
        for (int c = 0; c < 3; c++) {
            for (int what = 0; what < 6; what++) {
                all.append(d.component(c, what)).append(' ');
            }
            for (int i = 0; i < 36 * 64; i++) {
                all.append(d.coefficient(c, i / 64, i % 64)).append(' ');
            }
            for (int i = 0; i < 40 * 40; i++) {
                all.append(d.sample(c, i % 40, i / 40)).append(' ');
            }
            for (int k = 0; k < 64; k++) {
                all.append(d.known(c, k)).append(' ');
            }
        }
        for (int i = 0; i < d.look(9); i++) {
            all.append(d.out(i)).append(' ');
        }
        return all.toString();
    }

    /** How many bytes the tape has: the greatest number that it can be ended at. */
    static int tape(ScanDesk d) {
        int n = 6000;
        while (n > 0 && d.end(n) == -1) {
            n--;
        }
        return n;
    }

    /** What would be written by the script and the interval; the desk keeps it as written. */
    static String written(ScanDesk d) {
        StringBuilder all = new StringBuilder();
        all.append(d.write()).append(':');
        for (int i = 0; i < d.look(9); i++) {
            all.append(d.out(i)).append(' ');
        }
        return all.toString();
    }

    static void same(String what, ScanDesk d, String before) {
        Due.yes(what + ": nothing else changed", of(d).equals(before));
    }
}
