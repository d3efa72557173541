import java.util.Arrays;

/** Promises 1 to 7 in their order: each method tests the boundary cases of the sentence that it quotes. */
final class CallEdgesTest {
    private static final int LOW = Integer.MIN_VALUE;
    private static final int HIGH = Integer.MAX_VALUE;

    public static void main(String[] args) {
        newObject();
        feedHighestFirst();
        feedUpTo6000();
        endAtFirstBytes();
        endRefused();
        takeBecomesTape();
        takeRefused();
        pictureCanBe();
        pictureCant();
        pictureIsNew();
        putEdges();
        putRefused();
        setEdges();
        setRefused();
        Due.end();
    }

    /** One lossless sample of value 130, read by one scan. */
    private static Stream small() {
        return Stream.begun().frame(0xC3, 8, 1, 1, 0x11).dcTable(0).scan(1, 0, 0, 10).data("00010 10").ended();
    }

    /** The small stream with a segment passed by, so that it has just so many bytes. */
    private static Stream small(int bytes) {
        Stream rest = small();
        int[] body = new int[bytes - rest.length() - 4];
        byte[] all = rest.all();
        Stream s = Stream.begun().segment(0xFE, body);
        return s.all(Arrays.copyOfRange(all, 2, all.length));
    }

    private static void isSmall(String what, ScanDesk d) {
        Due.is(what + ": read", d.read(), 1);
        Due.is(what + ": its sample", d.sample(0, 0, 0), 130);
    }

    /** "No picture, an empty TAPE and SCRIPT, no interval." */
    private static void newObject() {
        ScanDesk d = new ScanDesk();
        Due.is("no kind", d.look(0), 0);
        Due.no("nothing to put", d.put(0, 0, 0, 0));
        Due.no("nothing to set", d.set(0, 0, 0, 0));
        Due.is("nothing to scan", d.scan(1, 0, 0, 0, 0), -1);
        Due.is("nothing to write", d.write(), -1);
        Due.is("an empty tape", State.tape(d), 0);
        Due.is("which can't be read", d.read(), -1);
        Due.is("as its first byte lacks", d.errorAt(), 0);
        Due.is("an empty script", d.look(7), 0);
        Due.is("nothing written", d.look(9), 0);
        d = new ScanDesk();
        d.picture(2, 40, 1, 8, 1, 1, 1);
        Due.is("lossless without a DRI", d.write(), 2 + 13 + 38 + 2);
        d = new ScanDesk();
        d.picture(1, 40, 1, 8, 1, 1, 1);
        Due.is("progressive without a DRI", d.write(), 2 + 13 + 311 + 2);
    }

    /** "Twenty bytes come behind the TAPE, four of each number, the highest first: how many it has". */
    private static void feedHighestFirst() {
        ScanDesk d = new ScanDesk();
        Due.is("twenty", d.feed(0xFFD8FFFE, 0x000480FF, 0xFFC3000B, 0x10002700, 0x28010111), 20);
        Due.is("forty", d.feed(0x00FFD9FF, LOW, HIGH, 0, -1), 40);
        Due.is("the first twenty-three", d.end(23), 23);
        Due.is("read", d.read(), 0);
        Due.is("bits, height and width", d.look(3) * 10000 + d.look(2) * 100 + d.look(1), 163940);
    }

    /** "NONE, and none come, if it would have more than 6000." */
    private static void feedUpTo6000() {
        ScanDesk d = new ScanDesk();
        for (int bytes : new int[] {6000, 5999, 5990, 5981}) {
            small(bytes).onto(d);
            Due.is("more than 6000 behind " + bytes, d.feed(-1, -1, -1, -1, -1), -1);
            Due.is("none came", State.tape(d), bytes);
            isSmall("of " + bytes, d);
        }
        small(5980).onto(d);
        Due.is("just 6000", d.feed(7, 0, 0, 0, 0), 6000);
        Due.is("they came", d.read(), -8);
        Due.is("behind the end", d.errorAt(), 5980);
    }

    /** "The TAPE has its first n bytes: n". */
    private static void endAtFirstBytes() {
        ScanDesk d = new ScanDesk();
        int n = small().length();
        small().bytes(1, 2, 3).onto(d);
        Due.is("all of them", d.end(n + 3), n + 3);
        Due.is("three less", d.end(n), n);
        isSmall("the first n", d);
        small().onto(d);
        Due.is("one less", d.end(n - 1), n - 1);
        Due.is("its last lacks", d.read(), -1);
        Due.is("at the end", d.errorAt(), n - 1);
        small().onto(d);
        Due.is("none", d.end(0), 0);
        Due.is("none is left", d.read(), -1);
        Due.is("at 0", d.errorAt(), 0);
    }

    /** "NONE, doing nothing, if it has not so many, or n is below 0." */
    private static void endRefused() {
        ScanDesk d = new ScanDesk();
        Due.is("one of none", d.end(1), -1);
        Due.is("none of none", d.end(0), 0);
        int n = small().length();
        small().onto(d);
        for (int wrong : new int[] {n + 1, 6000, 6001, HIGH, -1, LOW}) {
            Due.is("end(" + wrong + ")", d.end(wrong), -1);
        }
        isSmall("nothing was done", d);
        Due.is("not what was there earlier", d.end(1), -1);
    }

    /** "What is written becomes the TAPE: how many bytes". */
    private static void takeBecomesTape() {
        ScanDesk d = new ScanDesk();
        small().onto(d);
        Due.is("nothing is written", d.take(), 0);
        Due.is("so the tape is empty", State.tape(d), 0);
        d.picture(2, 2, 1, 8, 1, 1, 1);
        d.set(0, 1, 0, 9);
        d.scan(1, 1, 0, 0, 0);
        int n = d.write();
        d.feed(-1, -1, -1, -1, -1);
        Due.is("in place of what was on it", d.take(), n);
        Due.is("no more", State.tape(d), n);
        Due.is("it stays written", d.look(9), n);
        d.picture(1, 1, 1, 8, 1, 1, 1);
        Due.is("read", d.read(), 1);
        Due.is("its sample", d.sample(0, 1, 0), 9);
        Due.is("taken twice", d.take(), n);
    }

    /** "NONE, doing nothing, if these are more than 6000." */
    private static void takeRefused() {
        ScanDesk d = new ScanDesk();
        Due.is("of 6000", lengthOf(d, 6000), 6000);
        Due.is("are taken", d.take(), 6000);
        Due.is("and read", d.read(), 2);
        d = new ScanDesk();
        Due.is("of 6001", lengthOf(d, 6001), 6001);
        small().onto(d);
        Due.is("are too many", d.take(), -1);
        isSmall("nothing was done", d);
    }

    /** Writes just so many bytes: 3200 samples of five bits, of some fifteen or seven more; and 1600 of five bits. */
    private static int lengthOf(ScanDesk d, int bytes) {
        int[] table = {0, 1, 2, 0, 0, 0, 0, 0, 0, 0, 0, 0, 0, 0, 0, 0, 0, 0, 15, 7};
        int more = 8 * (bytes - (2 + 19 + 38 + 12 + 10 + 1000 + 2)) - 5 * 3200;
        int sevens = 0;
        while ((more - 7 * sevens) % 15 != 0) {
            sevens++;
        }
        int fifteens = (more - 7 * sevens) / 15;
        String data = "11 1010101".repeat(sevens) + "10 101010101010101".repeat(fifteens);
        Stream s = Stream.begun().frame(0xC3, 16, 40, 40, 0x11, 0x11, 0x11).segment(0xC4, table);
        s.scan(1, 0, 0, 10, 20).data(data + "0".repeat(3200 - sevens - fifteens)).ended();
        Due.is("read", s.readBy(d), 1);
        d.scan(3, 1, 0, 0, 0);
        d.scan(4, 1, 0, 0, 0);
        return d.write();
    }

    /** "A new picture of a KIND (1, 2) .. true"; term 1's edges. */
    private static void pictureCanBe() {
        int[][] right = {
            {1, 1, 1, 8, 1, 1, 1}, {1, 40, 40, 8, 1, 1, 1}, {1, 1, 40, 12, 3, 2, 2}, {1, 40, 1, 12, 2, 1, 2},
            {1, 8, 8, 8, 3, 2, 1}, {2, 1, 1, 2, 1, 1, 1}, {2, 40, 40, 16, 3, 1, 1}, {2, 1, 40, 2, 2, 1, 1},
            {2, 40, 1, 3, 1, 1, 1}, {2, 7, 7, 15, 1, 1, 1},
        };
        for (int[] r : right) {
            ScanDesk d = new ScanDesk();
            Due.yes("picture", d.picture(r[0], r[1], r[2], r[3], r[4], r[5], r[6]));
            for (int what = 0; what < 5; what++) {
                Due.is("look(" + what + ")", d.look(what), r[what]);
            }
            for (int c = 0; c < 3; c++) {
                Due.is("H of " + c, d.component(c, 0), c >= r[4] ? -1 : c == 0 ? r[5] : 1);
                Due.is("V of " + c, d.component(c, 1), c >= r[4] ? -1 : c == 0 ? r[6] : 1);
            }
        }
    }

    /** "false, and nothing happens: it can't be." */
    private static void pictureCant() {
        int[] can = {1, 8, 8, 8, 1, 1, 1};
        int[][] wrong = {{0, 3, -1, LOW, HIGH}, {0, 41, -1, LOW, HIGH}, {0, 41, -1, LOW, HIGH},
            {7, 9, 11, 13, 0, 16, -8, LOW, HIGH}, {0, 4, -1, LOW, HIGH}, {0, 3, -1, LOW, HIGH}, {0, 3, -1, LOW, HIGH}};
        int[][] lossless = {{}, {0, 41, -1}, {0, 41, -1}, {1, 17, 0, -1, LOW, HIGH}, {0, 4, -1}, {0, 2, -1}, {0, 2, -1}};
        ScanDesk d = new ScanDesk();
        d.picture(1, 9, 9, 12, 2, 2, 1);
        d.put(1, 1, 7, 5);
        d.restart(3);
        d.scan(1, 0, 0, 0, 1);
        d.write();
        small().onto(d);
        String before = State.of(d);
        for (int i = 0; i < 7; i++) {
            for (int kind = 1; kind <= 2; kind++) {
                for (int value : (kind == 1 ? wrong : lossless)[i]) {
                    int[] a = can.clone();
                    a[0] = kind;
                    a[i] = value;
                    Due.no("argument " + i + " " + value, d.picture(a[0], a[1], a[2], a[3], a[4], a[5], a[6]));
                }
            }
        }
        State.same("pictures that can't be", d, before);
        Due.is("the script goes on", d.scan(1, 0, 0, 1, 0), 2);
        isSmall("the tape is there", d);
    }

    /** "A new picture .., all 0; .. the SCRIPT is empty". */
    private static void pictureIsNew() {
        for (int kind = 1; kind <= 2; kind++) {
            ScanDesk d = new ScanDesk();
            String blank = null;
            for (int i = 0; i < 4; i++) {
                Due.yes("picture", d.picture(kind, 40, 40, 12, 3, 1, 1));
                blank = blank == null ? State.of(d) : blank;
                State.same("picture " + i, d, blank);
                for (int c = 0; c < 3; c++) {
                    d.put(c, 24, 63, 9);
                    d.set(c, 39, 39, 9);
                }
                Due.is("a script that knows nothing", d.scan(7, kind - 1, 0, 0, 3), 1);
            }
        }
        ScanDesk d = new ScanDesk();
        small().onto(d);
        d.read();
        d.picture(2, 1, 1, 8, 1, 1, 1);
        Due.is("what was read is gone", d.sample(0, 0, 0), 0);
        Due.is("and isn't known", d.known(0, 0), -1);
    }

    /** "A coefficient becomes v, -16383 .. 16383: true", at the first and the last of each component. */
    private static void putEdges() {
        ScanDesk d = Stream.begun().frame(0xC2, 8, 40, 40, 0x22, 0x22, 0x22).ended().taken("6 by 6 blocks each", 0);
        for (int c = 0; c < 3; c++) {
            Due.yes("first of " + c, d.put(c, 0, 0, -16383 + c));
            Due.yes("last of " + c, d.put(c, 35, 63, 16383 - c));
        }
        for (int c = 0; c < 3; c++) {
            Due.is("first of " + c, d.coefficient(c, 0, 0), -16383 + c);
            Due.is("last of " + c, d.coefficient(c, 35, 63), 16383 - c);
        }
        Due.yes("back to 0", d.put(2, 35, 63, 0));
        Due.is("0", d.coefficient(2, 35, 63), 0);
    }

    /** "false: no PROGRESSIVE picture, no such component, BLOCK, k (0 .. 63), v." */
    private static void putRefused() {
        ScanDesk d = new ScanDesk();
        Due.no("no picture", d.put(0, 0, 0, 1));
        d.picture(2, 40, 40, 8, 3, 1, 1);
        String before = State.of(d);
        Due.no("a lossless one", d.put(0, 0, 0, 1));
        State.same("lossless", d, before);
        d.picture(1, 17, 9, 8, 2, 2, 1);
        before = State.of(d);
        int[][] wrong = {
            {-1, 0, 0, 1}, {2, 0, 0, 1}, {3, 0, 0, 1}, {LOW, 0, 0, 1}, {HIGH, 0, 0, 1}, {0, -1, 0, 1}, {0, 8, 0, 1},
            {1, 4, 0, 1}, {1, -1, 63, 1}, {0, LOW, 0, 1}, {0, HIGH, 0, 1}, {0, 0, -1, 1}, {0, 1, -1, 1}, {1, 0, -1, 1},
            {0, 0, 64, 1}, {0, 7, 64, 1}, {0, 1, LOW, 1}, {0, 1, HIGH, 1}, {0, 0, 0, 16384}, {0, 0, 0, -16384},
            {0, 0, 0, LOW}, {0, 0, 0, HIGH}, {0, 1 << 26, 0, 1}, {1 << 26, 0, 0, 1},
        };
        for (int[] w : wrong) {
            Due.no("put " + w[0] + " " + w[1] + " " + w[2] + " " + w[3], d.put(w[0], w[1], w[2], w[3]));
        }
        State.same("coefficients that there are not", d, before);
        Due.yes("the last block of the first", d.put(0, 7, 63, 1));
        Due.yes("the last block of the second", d.put(1, 3, 63, 1));
    }

    /** "A SAMPLE becomes v, below 2^bits: true", for the fewest and the most bits, in all corners. */
    private static void setEdges() {
        for (int bits = 2; bits <= 16; bits++) {
            ScanDesk d = new ScanDesk();
            d.picture(2, 40, 40, bits, 3, 1, 1);
            for (int i = 0; i < 12; i++) {
                Due.yes("corner", d.set(i % 3, i / 3 % 2 * 39, i / 6 * 39, (1 << bits) - 1 - i % 4));
            }
            for (int i = 0; i < 12; i++) {
                Due.is("corner", d.sample(i % 3, i / 3 % 2 * 39, i / 6 * 39), (1 << bits) - 1 - i % 4);
            }
            Due.no("2^bits", d.set(0, 0, 0, 1 << bits));
            Due.yes("0", d.set(0, 0, 0, 0));
            Due.is("is 0", d.sample(0, 0, 0), 0);
        }
    }

    /** "false: no LOSSLESS picture, no such component, x, y, v." */
    private static void setRefused() {
        ScanDesk d = new ScanDesk();
        Due.no("no picture", d.set(0, 0, 0, 1));
        d.picture(1, 40, 40, 8, 3, 1, 1);
        String before = State.of(d);
        Due.no("a progressive one", d.set(0, 0, 0, 1));
        State.same("progressive", d, before);
        d.picture(2, 5, 3, 4, 2, 1, 1);
        before = State.of(d);
        int[][] wrong = {
            {-1, 0, 0, 1}, {2, 0, 0, 1}, {LOW, 0, 0, 1}, {HIGH, 0, 0, 1}, {0, -1, 0, 1}, {0, -1, 1, 1}, {0, 5, 0, 1},
            {1, 5, 2, 1}, {0, LOW, 0, 1}, {0, HIGH, 0, 1}, {0, 0, -1, 1}, {0, 4, -1, 1}, {0, 0, 3, 1}, {1, 0, -1, 1},
            {0, 0, LOW, 1}, {0, 0, HIGH, 1}, {0, 0, 0, 16}, {0, 0, 0, -1}, {0, 0, 0, LOW}, {0, 0, 0, HIGH},
        };
        for (int[] w : wrong) {
            Due.no("set " + w[0] + " " + w[1] + " " + w[2] + " " + w[3], d.set(w[0], w[1], w[2], w[3]));
        }
        State.same("samples that there are not", d, before);
    }
}
