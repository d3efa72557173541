/** Runs by numbers that look random but are always the same: rounds, damaged streams, and arguments of every kind. */
final class RandomTest {
    private static final int ROUNDS = 300;
    private static final int[] EDGES = {
        0, 1, -1, 2, 3, 7, 8, 13, 14, 16, 40, 41, 60, 63, 64, 255, 2000, 2001, 6000, 16383, -16383, 65535, 65536,
        Integer.MAX_VALUE, Integer.MIN_VALUE,
    };

    private static long seed = 20261116;

    public static void main(String[] args) {
        for (int i = 0; i < ROUNDS; i++) {
            progressive(i);
            lossless(i);
        }
        for (int i = 0; i < ROUNDS; i++) {
            anyCalls();
        }
        Due.end();
    }

    private static int below(int n) {
        seed = seed * 6364136223846793005L + 1442695040888963407L;
        return (int) ((seed >>> 33) % n);
    }

    private static void progressive(int round) {
        ScanDesk d = new ScanDesk();
        int components = 1 + below(3);
        Due.yes("picture", d.picture(1, 1 + below(40), 1 + below(40), 8, components, 1 + below(2), 1 + below(2)));
        int greatest = 1 << below(15);
        for (int i = 0; i < 300; i++) {
            int c = below(components);
            d.put(c, below(d.component(c, 4) * d.component(c, 5)), below(64), below(2 * greatest - 1) - greatest + 1);
        }
        int scans = 0;
        for (int i = 0; i < 60; i++) {
            int ss = i < 4 || below(4) == 0 ? 0 : 1 + below(63);
            int se = ss == 0 ? 0 : ss + below(64 - ss);
            int al = below(4);
            int n = d.scan(1 + below((1 << components) - 1), ss, se, below(2) == 0 ? 0 : al + 1, al);
            Due.is("scans", d.look(7), n > 0 ? n : scans);
            scans = d.look(7);
        }
        d.restart(below(3) == 0 ? 1 + below(30) : 0);
        int n = d.write();
        Due.yes("written", n > 0);
        ScanDesk e = copyOf(d);
        Due.is("round " + round + " read", e.read(), scans);
        for (int c = 0; c < components; c++) {
            compare(d, e, c);
        }
        damaged(d, e);
    }

    private static void compare(ScanDesk d, ScanDesk e, int c) {
        int across = d.component(c, 4);
        int shownAcross = (d.component(c, 2) + 7) / 8;
        int shownDown = (d.component(c, 3) + 7) / 8;
        for (int b = 0; b < across * d.component(c, 5); b++) {
            boolean shown = b % across < shownAcross && b / across < shownDown;
            for (int k = 0; k < 64 && shown; k++) {
                int al = e.known(c, k);
                int value = d.coefficient(c, b, k);
                int told = k == 0 ? value >> al << al : Integer.signum(value) * (Math.abs(value) >> al << al);
                Due.is("component " + c + " block " + b + " k " + k, e.coefficient(c, b, k), al == -1 ? 0 : told);
            }
        }
    }

    private static void lossless(int round) {
        ScanDesk d = new ScanDesk();
        int bits = 2 + below(15);
        int width = 1 + below(40);
        int height = 1 + below(12);
        Due.yes("picture", d.picture(2, width, height, bits, 2, 1, 1));
        for (int i = 0; i < 400; i++) {
            d.set(below(2), below(width), below(height), below(1 << bits));
        }
        int point = below(bits);
        boolean together = below(2) == 0;
        d.scan(together ? 3 : 2, 1 + below(7), 0, 0, point);
        if (!together) {
            d.scan(1, 1 + below(7), 0, 0, point);
        }
        d.restart(width * below(4));
        Due.yes("written", d.write() > 0);
        ScanDesk e = copyOf(d);
        Due.is("round " + round + " read", e.read(), together ? 1 : 2);
        for (int i = 0; i < width * height * 2; i++) {
            int value = d.sample(i % 2, i / 2 % width, i / 2 / width);
            Due.is("sample " + i, e.sample(i % 2, i / 2 % width, i / 2 / width), value >> point << point);
        }
        damaged(d, e);
    }

    private static Stream written(ScanDesk d) {
        Stream s = new Stream();
        for (int i = 0; i < d.look(9); i++) {
            s.bytes(d.out(i));
        }
        return s;
    }

    private static ScanDesk copyOf(ScanDesk d) {
        ScanDesk e = new ScanDesk();
        written(d).onto(e);
        return e;
    }

    /** A stream with a wrong byte is read or refused, but never read by half. */
    private static void damaged(ScanDesk d, ScanDesk e) {
        int n = d.look(9);
        for (int i = 0; i < 5; i++) {
            int wrong = below(3) == 0 ? below(n) : n - 1 - below(Math.min(n, 80));
            int cut = below(4) == 0 ? below(n) : n;
            Stream s = new Stream();
            for (int j = 0; j < cut; j++) {
                s.bytes(j == wrong ? below(256) : d.out(j));
            }
            int before = shape(e);
            int answer = s.readBy(e);
            Due.yes("answer " + answer, answer >= -8);
            Due.yes("place " + e.errorAt(), answer < 0 ? e.errorAt() >= 0 && e.errorAt() <= cut : e.errorAt() == -1);
            Due.yes("not a byte lacks", answer < 0 || cut == n);
            if (answer < 0) {
                Due.is("all else stays", shape(e), before);
            } else {
                Due.is("scans", e.look(8), answer);
            }
        }
    }

    private static int shape(ScanDesk e) {
        int sum = 0;
        for (int what = 0; what < 10; what++) {
            sum = sum * 31 + e.look(what);
        }
        for (int c = 0; c < 3; c++) {
            for (int i = 0; i < 36 * 64; i++) {
                sum = sum * 31 + e.coefficient(c, i / 64, i % 64) + e.sample(c, i % 40, i / 40) + e.known(c, i);
            }
        }
        return sum;
    }

    private static int edge() {
        return below(3) == 0 ? EDGES[below(EDGES.length)] : below(4);
    }

    private static void anyCalls() {
        ScanDesk d = new ScanDesk();
        for (int i = 0; i < 512; i++) {
            anyCall(d, below(21));
        }
        Due.yes("still there", d.look(0) >= 0);
    }

    private static void anyCall(ScanDesk d, int which) {
        switch (which) {
            case 0: d.feed(edge(), edge(), edge(), edge(), edge()); break;
            case 1: d.end(edge()); break;
            case 2: d.take(); break;
            case 3: d.picture(edge(), edge(), edge(), edge(), edge(), edge(), edge()); break;
            case 4: d.put(edge(), edge(), edge(), edge()); break;
            case 5: d.set(edge(), edge(), edge(), edge()); break;
            case 6: d.clear(); break;
            case 7: d.restart(edge()); break;
            case 8: d.write(); break;
            case 9: d.out(edge()); break;
            case 10: d.read(); break;
            case 11: d.errorAt(); break;
            case 12: d.look(edge()); break;
            case 13: d.component(edge(), edge()); break;
            case 14: d.coefficient(edge(), edge(), edge()); break;
            case 15: d.sample(edge(), edge(), edge()); break;
            case 16: d.known(edge(), edge()); break;
            case 17: d.picture(1 + below(2), 1 + below(40), 1 + below(40), 8, 1 + below(3), 1, 1); break;
            default: d.scan(edge(), edge(), edge(), edge(), edge()); break;
        }
    }
}
