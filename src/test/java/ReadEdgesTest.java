import java.util.Arrays;

/** Promises 13 to 19 in their order: each method tests the boundary cases of the sentence that it quotes. */
final class ReadEdgesTest {
    private static final int LOW = Integer.MIN_VALUE;
    private static final int HIGH = Integer.MAX_VALUE;

    public static void main(String[] args) {
        readEmptiesTape();
        readTellsPicture();
        readFaultLeavesAllElse();
        readLongestTape();
        readManyScans();
        errorAtPlaces();
        lookWithoutPicture();
        lookEdges();
        lookScansRead();
        componentEdges();
        coefficientEdges();
        sampleEdges();
        knownEdges();
        knownOfLossless();
        knownOfOtherPictures();
        Due.end();
    }

    /** Two components of one block each: the DC of both known as 1, of the second places 1 to 5 as 0. */
    private static Stream twoBlocks() {
        Stream s = Stream.begun().frame(0xC2, 12, 8, 8, 0x11, 0x11).dcTable(0).acTable(0);
        s.scan(0, 0, 1, 10, 20).data("00010 10 00010 11");
        return s.scan(1, 5, 0, 20).data(Stream.low(0x42, 8) + "10").ended();
    }

    /** "The TAPE, which is empty then, is read", taken or not. */
    private static void readEmptiesTape() {
        ScanDesk d = new ScanDesk();
        Due.is("taken", twoBlocks().readBy(d), 2);
        Due.is("empty", State.tape(d), 0);
        Due.is("nothing is left to read", d.read(), -1);
        Due.is("not a byte", d.errorAt(), 0);
        Due.is("the picture stays", d.coefficient(1, 0, 5), 2);
        twoBlocks().bytes(9).onto(d);
        Due.is("a fault", d.read(), -8);
        Due.is("empty too", State.tape(d), 0);
        Due.is("twenty come as the first ones", d.feed(0, 0, 0, 0, 0), 20);
        Due.is("no FF", d.read(), -2);
    }

    /** "the picture is what it tells, the SCRIPT is empty: how many scans". */
    private static void readTellsPicture() {
        ScanDesk d = new ScanDesk();
        d.picture(2, 40, 40, 16, 3, 1, 1);
        for (int i = 0; i < 40; i++) {
            d.set(i % 3, i, i, 65535);
        }
        d.scan(7, 1, 0, 0, 0);
        d.restart(40);
        d.write();
        int n = d.look(9);
        Due.is("two scans", twoBlocks().readBy(d), 2);
        int[] due = {1, 8, 8, 12, 2, 1, 1, 0, 2, n};
        for (int what = 0; what < 10; what++) {
            Due.is("look(" + what + ")", d.look(what), due[what]);
        }
        int[] first = {4, 0, 0, 0, 0, 0, 0};
        int[] second = {6, 0, 0, 0, 0, 2, 0};
        for (int k = 0; k < 64; k++) {
            Due.is("first " + k, d.coefficient(0, 0, k), k < 7 ? first[k] : 0);
            Due.is("second " + k, d.coefficient(1, 0, k), k < 7 ? second[k] : 0);
        }
        Due.is("no third", d.component(2, 0), -1);
        Due.is("a script that knows nothing", d.scan(3, 0, 0, 0, 0), 1);
        Due.is("none at all", Stream.begun().frame(0xC3, 2, 1, 1, 0x11).ended().readBy(d), 0);
        Due.is("of the other kind", d.look(0), 2);
        Due.is("all 0", d.sample(0, 0, 0), 0);
        Due.is("the script is empty", d.look(7), 0);
    }

    private static Stream[] faulty() {
        Stream cut = twoBlocks();
        byte[] all = cut.all();
        Stream data = Stream.begun().frame(0xC3, 8, 40, 40, 0x11).dcTable(0).scan(1, 0, 0, 10).data("00111 1010101");
        return new Stream[] {
            new Stream().all(Arrays.copyOf(all, all.length - 1)), new Stream().bytes(1),
            Stream.begun().frame(0xC2, 8, 41, 8, 0x11), Stream.begun()
                .segment(0xC4, 0, 3, 0, 0, 0, 0, 0, 0, 0, 0, 0, 0, 0, 0, 0, 0, 0),
            twoBlocks().bytes(0), data.ended(), Stream.begun().frame(0xC2, 8, 8, 8, 0x11).scan(0, 0, 0, 10),
            Stream.begun().frame(0xC2, 8, 16, 8, 0x11).dcTable(0).segment(0xDD, 0, 1).scan(0, 0, 0, 10).data("00000")
                .ended(),
        };
    }

    /** "less the FAULT's kind: all else stays." */
    private static void readFaultLeavesAllElse() {
        int[] kinds = {1, 2, 3, 4, 8, 6, 5, 7};
        ScanDesk d = new ScanDesk();
        twoBlocks().readBy(d);
        d.put(0, 0, 9, -9);
        d.restart(3);
        d.scan(3, 0, 0, 0, 2);
        d.scan(1, 1, 63, 0, 0);
        d.write();
        String before = State.of(d);
        Stream[] streams = faulty();
        for (int i = 0; i < kinds.length; i++) {
            Due.is("fault", streams[i].readBy(d), -kinds[i]);
            String now = State.of(d).replaceFirst("^((\\S+ ){10})" + d.errorAt() + " ", "$1-1 ");
            Due.yes("all but the place stays behind fault " + kinds[i], now.equals(before));
        }
        Due.is("the script goes on", d.scan(3, 0, 0, 2, 1), 3);
        d.clear();
        d.scan(3, 0, 0, 0, 0);
        d.write();
        Due.is("the interval stays", d.out(d.look(9) - 2 - 2 - 12 - 1), 3);
    }

    /** A stream that fills the tape is read to its last byte, and a fault there has its place. */
    private static void readLongestTape() {
        int rest = twoBlocks().length();
        byte[] all = twoBlocks().all();
        Stream s = Stream.begun().segment(0xEF, new int[6000 - rest - 4]).all(Arrays.copyOfRange(all, 2, rest));
        Due.is("6000 bytes", s.length(), 6000);
        ScanDesk d = s.taken("6000 bytes", 2);
        Due.is("its last place", d.coefficient(1, 0, 5), 2);
        Due.is("one less", new Stream().all(Arrays.copyOf(s.all(), 5999)).readBy(d), -1);
        Due.is("at its end", d.errorAt(), 5999);
        byte[] other = s.all();
        other[5999] = 0;
        Due.is("another last byte", new Stream().all(other).readBy(d), -8);
        Due.is("FF 00 behind the data", d.errorAt(), 5998);
        for (int last : new int[] {0, 255}) {
            Stream cut = Stream.begun().frame(0xC2, 8, 16, 8, 0x11).dcTable(0).segment(0xEF, new int[6000 - 67 - 4 - 11]);
            Due.is("the data end with the tape", cut.scan(0, 0, 0, 10).bytes(last).readBy(d), -1);
            Due.is("6000 bytes", cut.length(), 6000);
            Due.is("the next lacks", d.errorAt(), 6000);
        }
        other[5999] = -1;
        Due.is("FF as the last byte", new Stream().all(other).readBy(d), -1);
        Due.is("the code lacks", d.errorAt(), 6000);
    }

    /** "how many scans": the 60 of the SCRIPT are no bound for reading. */
    private static void readManyScans() {
        Stream s = Stream.oneBlock().scan(0, 0, 2, 10).data("00000");
        for (int al = 2; al >= 0; al--) {
            for (int k = 1; k < 64; k++) {
                String bits = al == 2 ? Stream.low(0x01, 8) + "1" : Stream.low(0, 8) + (k >> al & 1);
                s.scan(k, k, al == 2 ? 2 : 16 * (al + 1) + al, 10).data(bits);
            }
        }
        ScanDesk d = s.ended().taken("many", 1 + 3 * 63);
        Due.is("190 are counted", d.look(8), 190);
        for (int k = 1; k < 64; k++) {
            Due.is("place " + k, d.coefficient(0, 0, k), 4 + (k & 3));
            Due.is("known " + k, d.known(0, k), 0);
        }
        Due.is("the DC is known", d.known(0, 0), 2);
    }

    /** "The place of the latest read()'s FAULT; NONE without one, or ahead of any." */
    private static void errorAtPlaces() {
        ScanDesk d = new ScanDesk();
        Due.is("ahead of any", d.errorAt(), -1);
        d.picture(1, 8, 8, 8, 1, 1, 1);
        Due.is("still", d.errorAt(), -1);
        Due.is("nothing", d.read(), -1);
        Due.is("at 0", d.errorAt(), 0);
        Stream.begun().bytes(7).readBy(d);
        Due.is("the latest", d.errorAt(), 2);
        d.picture(2, 8, 8, 8, 1, 1, 1);
        d.scan(1, 1, 0, 0, 0);
        d.write();
        d.take();
        d.clear();
        Due.is("other calls leave it", d.errorAt(), 2);
        Due.is("taken", d.read(), 1);
        Due.is("without one", d.errorAt(), -1);
        new Stream().bytes(255, 0).readBy(d);
        Due.is("a fault again", d.errorAt(), 1);
    }

    /** "NONE for another what, and without a picture but 0, 7, 8, 9." */
    private static void lookWithoutPicture() {
        ScanDesk d = new ScanDesk();
        int[] due = {0, -1, -1, -1, -1, -1, -1, 0, 0, 0};
        for (int round = 0; round < 2; round++) {
            for (int what = 0; what < 10; what++) {
                Due.is("without a picture look(" + what + ")", d.look(what), due[what]);
            }
            for (int what : new int[] {-1, 10, LOW, HIGH}) {
                Due.is("look(" + what + ")", d.look(what), -1);
            }
            Stream.begun().frame(0xC2, 8, 8, 8, 0x11).bytes(0).readBy(d);
            d.picture(1, 8, 8, 8, 0, 1, 1);
        }
    }

    /** "5 MCUS in a row of a scan of all, 6 rows of these"; "NONE for another what". */
    private static void lookEdges() {
        int[][] due = {
            {8, 1, 1}, {8, 2, 1}, {16, 2, 1}, {17, 2, 2}, {9, 1, 2}, {40, 1, 5}, {40, 2, 3}, {32, 2, 2}, {33, 2, 3},
            {1, 2, 1}, {1, 1, 1},
        };
        for (int[] w : due) {
            ScanDesk d = new ScanDesk();
            d.picture(1, w[0], 1, 8, 2, w[1], 1);
            Due.is("in a row", d.look(5), w[2]);
            Due.is("one row", d.look(6), 1);
            d.picture(1, 1, w[0], 8, 3, 1, w[1]);
            Due.is("one in a row", d.look(5), 1);
            Due.is("rows", d.look(6), w[2]);
            for (int what : new int[] {-1, 10, 11, LOW, HIGH}) {
                Due.is("look(" + what + ")", d.look(what), -1);
            }
        }
        ScanDesk d = new ScanDesk();
        d.picture(2, 40, 39, 8, 3, 1, 1);
        Due.is("samples in a row", d.look(5), 40);
        Due.is("rows of samples", d.look(6), 39);
        d.picture(2, 1, 1, 8, 1, 1, 1);
        Due.is("one", d.look(5) * d.look(6), 1);
    }

    /** "8 scans read by the latest read() that was taken (0)". */
    private static void lookScansRead() {
        ScanDesk d = new ScanDesk();
        Due.is("0 ahead of any", d.look(8), 0);
        d.read();
        Due.is("0 behind a fault", d.look(8), 0);
        twoBlocks().readBy(d);
        Due.is("2", d.look(8), 2);
        twoBlocks().bytes(0).readBy(d);
        Due.is("2 behind a fault", d.look(8), 2);
        d.picture(1, 8, 8, 8, 1, 1, 1);
        Due.is("2 behind a picture that came otherwise", d.look(8), 2);
        Stream.begun().frame(0xC2, 8, 8, 8, 0x11).ended().readBy(d);
        Due.is("0 when none was told", d.look(8), 0);
    }

    /** "NONE if there is none such": no such component, or what. */
    private static void componentEdges() {
        ScanDesk d = new ScanDesk();
        for (int what = -1; what < 7; what++) {
            Due.is("no picture", d.component(0, what), -1);
        }
        for (int kind = 1; kind <= 2; kind++) {
            for (int count = 1; count <= 3; count++) {
                d.picture(1, 8, 8, 8, 3, 1, 1);
                d.picture(kind, 40, 39, 8, count, 1, 1);
                int[] due = {1, 1, 40, 39, kind == 1 ? 5 : 0, kind == 1 ? 5 : 0};
                for (int what = 0; what < 6; what++) {
                    Due.is("the last one", d.component(count - 1, what), due[what]);
                    Due.is("one more", d.component(count, what), -1);
                    Due.is("one less than none", d.component(-1, what), -1);
                    Due.is("lowest", d.component(LOW, what), -1);
                    Due.is("highest", d.component(HIGH, what), -1);
                }
                for (int what : new int[] {-1, 6, LOW, HIGH}) {
                    Due.is("what " + what, d.component(0, what), -1);
                }
            }
        }
    }

    /** "A coefficient of the BUFFER; 0 if there is none such." */
    private static void coefficientEdges() {
        ScanDesk d = new ScanDesk();
        Due.is("no picture", d.coefficient(0, 0, 0), 0);
        d.picture(1, 17, 9, 8, 2, 2, 1);
        for (int i = 0; i < 8 * 64; i++) {
            d.put(0, i / 64, i % 64, 1 + i);
            d.put(1, i / 64, i % 64, 1000 + i);
        }
        Due.is("the first", d.coefficient(0, 0, 0), 1);
        Due.is("the last of the first", d.coefficient(0, 7, 63), 512);
        Due.is("the last of the second", d.coefficient(1, 3, 63), 1255);
        int[][] none = {
            {0, 0, -1}, {0, 1, -1}, {1, 0, -1}, {0, 0, 64}, {0, 7, 64}, {1, 3, 64}, {0, -1, 0}, {0, -1, 63}, {1, -1, 0},
            {0, 8, 0}, {1, 4, 0}, {-1, 0, 0}, {-1, 7, 63}, {2, 0, 0}, {3, 0, 0}, {LOW, 0, 0}, {HIGH, 0, 0}, {0, LOW, 0},
            {0, HIGH, 0}, {0, 0, LOW}, {0, 0, HIGH}, {0, 1 << 26, 0}, {0, 1, -64},
        };
        for (int[] n : none) {
            Due.is("coefficient " + n[0] + " " + n[1] + " " + n[2], d.coefficient(n[0], n[1], n[2]), 0);
        }
        d.picture(2, 8, 8, 8, 1, 1, 1);
        d.set(0, 0, 0, 5);
        Due.is("lossless", d.coefficient(0, 0, 0), 0);
    }

    /** "A SAMPLE (0 .. 65535); NONE if there is none such." */
    private static void sampleEdges() {
        ScanDesk d = new ScanDesk();
        Due.is("no picture", d.sample(0, 0, 0), -1);
        d.picture(2, 5, 3, 16, 2, 1, 1);
        for (int i = 0; i < 15; i++) {
            d.set(0, i % 5, i / 5, 65535 - i);
            d.set(1, i % 5, i / 5, 7);
        }
        Due.is("65535", d.sample(0, 0, 0), 65535);
        Due.is("the last", d.sample(0, 4, 2), 65521);
        d.set(0, 0, 0, 0);
        Due.is("0", d.sample(0, 0, 0), 0);
        int[][] none = {
            {0, -1, 0}, {0, -1, 1}, {0, 5, 0}, {0, 5, 2}, {0, 0, -1}, {0, 0, 3}, {1, 0, -1}, {-1, 0, 0}, {2, 0, 0},
            {3, 0, 0}, {LOW, 0, 0}, {HIGH, 0, 0}, {0, LOW, 0}, {0, HIGH, 0}, {0, 0, LOW}, {0, 0, HIGH}, {1, 5, 2},
        };
        for (int[] n : none) {
            Due.is("sample " + n[0] + " " + n[1] + " " + n[2], d.sample(n[0], n[1], n[2]), -1);
        }
        d.picture(1, 8, 8, 8, 1, 1, 1);
        d.put(0, 0, 0, 5);
        Due.is("progressive", d.sample(0, 0, 0), -1);
    }

    /** "What is KNOWN of the k-th coefficient .. (NONE: nothing, no such one ..)". */
    private static void knownEdges() {
        ScanDesk d = new ScanDesk();
        Due.is("no picture", d.known(0, 0), -1);
        twoBlocks().readBy(d);
        Due.is("the first's DC", d.known(0, 0), 1);
        Due.is("nothing", d.known(0, 1), -1);
        Due.is("the second's DC", d.known(1, 0), 1);
        for (int k = 1; k < 64; k++) {
            Due.is("of the second " + k, d.known(1, k), k <= 5 ? 0 : -1);
        }
        int[][] none = {
            {0, -1}, {0, 64}, {0, 65}, {1, -1}, {1, -64}, {1, 64}, {2, 0}, {-1, 64}, {-1, 0}, {LOW, 0}, {HIGH, 0},
            {0, LOW}, {0, HIGH}, {1 << 26, 0},
        };
        for (int[] n : none) {
            Due.is("known " + n[0] + " " + n[1], d.known(n[0], n[1]), -1);
        }
        Stream s = Stream.oneBlock().scan(0, 0, 13, 10).data("00000").scan(63, 63, 13, 10).data("00000000").ended();
        d = s.taken("the greatest AL", 2);
        Due.is("13", d.known(0, 0), 13);
        Due.is("nothing at 62", d.known(0, 62), -1);
        Due.is("13 at the last", d.known(0, 63), 13);
    }

    /** "(LOSSLESS k 0)": the POINT. */
    private static void knownOfLossless() {
        Stream s = Stream.begun().frame(0xC3, 16, 1, 1, 0x11, 0x11, 0x11).dcTable(0);
        s.scan(7, 0, 15, 20).data("00000").scan(1, 0, 0, 30).data("00000").ended();
        ScanDesk d = s.taken("two of three", 2);
        int[] due = {-1, 15, 0};
        for (int c = 0; c < 3; c++) {
            Due.is("of " + c, d.known(c, 0), due[c]);
            for (int k = 1; k < 64; k++) {
                Due.is("k " + k, d.known(c, k), -1);
            }
        }
        Due.is("one more", d.known(3, 0), -1);
    }

    /** "by the latest read() that was taken (NONE: .. or the picture came otherwise)". */
    private static void knownOfOtherPictures() {
        ScanDesk d = new ScanDesk();
        twoBlocks().readBy(d);
        d.scan(3, 0, 0, 0, 3);
        d.put(0, 0, 0, 1);
        d.write();
        Due.is("scans of the script and put() are none of it", d.known(0, 0), 1);
        d.take();
        twoBlocks().bytes(1).readBy(d);
        Due.is("a fault leaves it", d.known(0, 0), 1);
        Due.no("a picture that can't be", d.picture(1, 8, 8, 9, 1, 1, 1));
        Due.is("leaves it too", d.known(1, 5), 0);
        d.picture(1, 8, 8, 12, 2, 1, 1);
        Due.is("a picture that came otherwise", d.known(0, 0) + d.known(1, 0) + d.known(1, 5), -3);
        twoBlocks().bytes(1).readBy(d);
        Due.is("a fault doesn't bring it back", d.known(0, 0), -1);
        Stream.oneBlock().ended().readBy(d);
        Due.is("read without scans", d.known(0, 0), -1);
    }
}
