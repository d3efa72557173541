import java.util.Arrays;

/** Term 2, SCANS and their order: each method tests the boundary cases of the sentence that it quotes. */
final class ScanEdgesTest {
    private static final int HEAD = 2 + 13 + 311;

    public static void main(String[] args) {
        dcScans();
        bands();
        greatestAl();
        firstOfAll();
        again();
        bandBehindItsDc();
        losslessFigures();
        losslessOnce();
        tenBlocks();
        orderOfSeveral();
        orderOfTenBlocks();
        orderOfOne();
        intervalOfMcus();
        intervalOfOne();
        restartNumbers();
        beginAnew();
        wholeRows();
        Due.end();
    }

    /** A scan asked of a desk and told by a stream: it is taken by both, or refused with this number and fault 5. */
    private static void scan(ScanDesk d, Stream s, int due, int components, int... f) {
        String what = "scan " + components + " " + Arrays.toString(f);
        int answer = d.scan(components, f[0], f[1], f[2], f[3]);
        int[] body = new int[4 + 2 * Integer.bitCount(components & 7)];
        int at = 1;
        for (int c = 0; c < 3; c++) {
            if ((components >> c & 1) == 1) {
                body[at] = 10 * (c + 1);
                at += 2;
            }
        }
        body[0] = (at - 1) / 2;
        body[at] = f[0];
        body[at + 1] = f[1];
        body[at + 2] = 16 * f[2] + f[3];
        Stream told = new Stream().all(s.all()).segment(0xDA, body);
        if (due < 0) {
            Due.is(what, answer, due);
            told.refused(what, 5, s.length() + 1);
        } else {
            Due.yes(what, answer > 0);
            told.refused(what + " lacks only its data", 1, told.length());
            d.clear();
        }
    }

    private static ScanDesk desk(int kind, int bits, int components) {
        ScanDesk d = new ScanDesk();
        Due.yes("picture", d.picture(kind, 8, 8, bits, components, 1, 1));
        return d;
    }

    private static Stream frame(int kind, int bits, int components) {
        int[] factors = new int[components];
        Arrays.fill(factors, 0x11);
        return Stream.begun().frame(0xC1 + kind, bits, 8, 8, factors).dcTable(0).acTable(0);
    }

    /** "SS 0 with SE 0 (the DC, of one or several)". */
    private static void dcScans() {
        ScanDesk d = desk(1, 8, 3);
        Stream s = frame(1, 8, 3);
        for (int components = 1; components < 8; components++) {
            scan(d, s, 1, components, 0, 0, 0, 0);
            for (int se : new int[] {1, 5, 63, 64, 255}) {
                scan(d, s, -3, components, 0, se, 0, 0);
            }
        }
        Due.is("SE below 0", d.scan(1, 0, -1, 0, 0), -3);
        Due.is("SS below 0", d.scan(1, -1, 0, 0, 0), -3);
        Due.is("both below 0", d.scan(1, -1, -1, 0, 0), -3);
    }

    /** Desk and stream where the DC of all is told. */
    private static ScanDesk withDc(Stream s, int components, int al) {
        ScanDesk d = desk(1, 8, components);
        d.scan((1 << components) - 1, 0, 0, 0, al);
        int[] numbers = {10, 20, 30};
        s.scan(0, 0, al, Arrays.copyOf(numbers, components)).data("00000".repeat(components));
        return d;
    }

    /** "or SS 1 .. SE .. 63 of one alone". */
    private static void bands() {
        int[][] can = {{1, 1}, {1, 63}, {63, 63}, {31, 32}, {62, 63}, {32, 32}};
        int[][] cant = {{1, 0}, {2, 1}, {63, 62}, {1, 64}, {63, 64}, {64, 64}, {64, 63}, {255, 255}, {1, 255}, {33, 32}};
        for (int c = 0; c < 3; c++) {
            for (int[] w : can) {
                Stream s = frame(1, 8, 3);
                scan(withDc(s, 3, 0), s, 1, 1 << c, w[0], w[1], 0, 0);
            }
            for (int[] w : cant) {
                Stream s = frame(1, 8, 3);
                scan(withDc(s, 3, 0), s, -3, 1 << c, w[0], w[1], 0, 0);
            }
        }
        for (int several : new int[] {3, 5, 6, 7}) {
            Stream s = frame(1, 8, 3);
            scan(withDc(s, 3, 0), s, -3, several, 1, 63, 0, 0);
        }
    }

    /** "AL 0 .. 13." */
    private static void greatestAl() {
        for (int al = 0; al < 16; al++) {
            scan(desk(1, 8, 1), frame(1, 8, 1), al <= 13 ? 1 : -3, 1, 0, 0, 0, al);
            Stream s = frame(1, 8, 1);
            scan(withDc(s, 1, 0), s, al <= 13 ? 1 : -3, 1, 7, 9, 0, al);
        }
        Due.is("AL below 0", desk(1, 8, 1).scan(1, 0, 0, 0, -1), -3);
        Due.is("and AH 0 less 1", desk(1, 8, 1).scan(1, 0, 0, 0, Integer.MIN_VALUE), -3);
        scan(desk(1, 8, 1), frame(1, 8, 1), -5, 1, 0, 0, 14, 13);
        scan(desk(1, 8, 1), frame(1, 8, 1), -3, 1, 0, 0, 15, 14);
    }

    /** "AH 0: all that it tells are not KNOWN yet". */
    private static void firstOfAll() {
        Stream s = frame(1, 8, 2).scan(0, 0, 0, 20).data("00000");
        ScanDesk d = desk(1, 8, 2);
        d.scan(2, 0, 0, 0, 0);
        scan(d, s, -5, 2, 0, 0, 0, 0);
        scan(d, s, -5, 2, 0, 0, 0, 5);
        scan(d, s, -5, 3, 0, 0, 0, 0);
        scan(d, s, 1, 1, 0, 0, 0, 0);
        int[][] bands = {{1, 9, 1}, {1, 10, -5}, {10, 20, -5}, {11, 19, -5}, {15, 15, -5}, {20, 63, -5}, {21, 63, 1},
            {1, 63, -5}};
        for (int[] b : bands) {
            s = frame(1, 8, 1);
            d = withDc(s, 1, 0);
            d.scan(1, 10, 20, 0, 1);
            s.scan(10, 20, 1, 10).data("00000000");
            scan(d, s, b[2], 1, b[0], b[1], 0, 0);
        }
    }

    /** "AH above 0: they are KNOWN as AH, and AL is AH less 1." */
    private static void again() {
        for (int ah = 1; ah <= 4; ah++) {
            for (int al = 0; al <= 5; al++) {
                Stream s = frame(1, 8, 2);
                int due = al != ah - 1 ? -3 : ah == 3 ? 1 : -5;
                scan(withDc(s, 2, 3), s, due, 3, 0, 0, ah, al);
                s = frame(1, 8, 1);
                ScanDesk d = withDc(s, 1, 0);
                d.scan(1, 4, 6, 0, 3);
                s.scan(4, 6, 3, 10).data("00000000");
                scan(d, s, due, 1, 4, 6, ah, al);
            }
        }
        int[][] bands = {{4, 4, 1}, {5, 5, 1}, {6, 6, 1}, {3, 4, -5}, {6, 7, -5}, {1, 63, -5}, {3, 3, -5}, {7, 7, -5},
            {4, 6, 1}};
        for (int[] b : bands) {
            Stream s = frame(1, 8, 1);
            ScanDesk d = withDc(s, 1, 2);
            d.scan(1, 4, 6, 0, 2);
            s.scan(4, 6, 2, 10).data("00000000");
            scan(d, s, b[2], 1, b[0], b[1], 2, 1);
        }
        Stream s = frame(1, 8, 2).scan(0, 0, 2, 10).data("00000").scan(0, 0, 1, 20).data("00000");
        ScanDesk d = desk(1, 8, 2);
        d.scan(1, 0, 0, 0, 2);
        d.scan(2, 0, 0, 0, 1);
        scan(d, s, -5, 3, 0, 0, 2, 1);
        scan(d, s, -5, 3, 0, 0, 1, 0);
        scan(d, s, 1, 1, 0, 0, 2, 1);
    }

    /** "A band comes behind its component's DC." */
    private static void bandBehindItsDc() {
        scan(desk(1, 8, 1), frame(1, 8, 1), -5, 1, 1, 63, 0, 0);
        Stream s = frame(1, 8, 3).scan(0, 0, 13, 10, 30).data("00000 00000");
        ScanDesk d = desk(1, 8, 3);
        d.scan(5, 0, 0, 0, 13);
        scan(d, s, -5, 2, 1, 1, 0, 0);
        scan(d, s, 1, 4, 1, 1, 0, 0);
    }

    /** "LOSSLESS: SS is the PREDICTOR, 1 .. 7, SE, AH 0, AL the POINT, 0 .. bits less 1". */
    private static void losslessFigures() {
        for (int ss = 0; ss <= 9; ss++) {
            scan(desk(2, 8, 3), frame(2, 8, 3), ss >= 1 && ss <= 7 ? 1 : -3, 7, ss, 0, 0, 0);
        }
        for (int bits = 2; bits <= 16; bits++) {
            for (int al = 0; al < 16; al++) {
                scan(desk(2, bits, 1), frame(2, bits, 1), al < bits ? 1 : -3, 1, 1, 0, 0, al);
            }
            Due.is("bits are too many", desk(2, bits, 1).scan(1, 1, 0, 0, bits), -3);
        }
        for (int wrong : new int[] {1, 7, 63, 255}) {
            scan(desk(2, 8, 1), frame(2, 8, 1), -3, 1, 1, wrong, 0, 0);
        }
        for (int ah = 1; ah < 16; ah++) {
            scan(desk(2, 8, 1), frame(2, 8, 1), -3, 1, 1, 0, ah, ah - 1);
        }
        int[][] below = {{-1, 0, 0, 0}, {1, -1, 0, 0}, {1, 0, -1, 0}, {1, 0, 0, -1}, {1, 0, 0, 16}};
        for (int[] w : below) {
            Due.is("below", desk(2, 16, 1).scan(1, w[0], w[1], w[2], w[3]), -3);
        }
    }

    /** "each component comes once (KNOWN, its 0-th, is the POINT then)". */
    private static void losslessOnce() {
        Stream s = frame(2, 8, 3).scan(4, 0, 3, 10, 30).data("00000".repeat(128));
        ScanDesk d = desk(2, 8, 3);
        d.scan(5, 4, 0, 0, 3);
        for (int components = 1; components < 8; components++) {
            ScanDesk e = desk(2, 8, 3);
            e.scan(5, 4, 0, 0, 3);
            scan(e, s, components == 2 ? 1 : -5, components, 5, 0, 0, 2);
        }
        ScanDesk read = new Stream().all(s.all()).ended().taken("two of three", 1);
        Due.is("known", read.known(0, 0) * 100 + read.known(2, 0) * 10 + read.known(1, 0), 329);
    }

    /** "The sum of H V of several components is 10 at most." */
    private static void tenBlocks() {
        int[][] frames = {
            {0x22, 0x22, 0x22, 12}, {0x22, 0x22, 0x21, 10}, {0x12, 0x22, 0x22, 10}, {0x22, 0x22, 0x11, 9},
                {0x22, 0x22, 8},
            {0x22, 4},
        };
        for (int[] f : frames) {
            int count = f.length - 1;
            int[] factors = Arrays.copyOf(f, count);
            Stream s = Stream.begun().frame(0xC2, 8, 16, 16, factors).dcTable(0);
            ScanDesk d = Stream.begun().frame(0xC2, 8, 16, 16, factors).ended().taken("frame", 0);
            scan(d, s, f[count] > 10 ? -4 : 1, (1 << count) - 1, 0, 0, 0, 0);
            scan(d, s, 1, 1, 0, 0, 0, 0);
        }
    }

    /** "of several components MCU by MCU (of each component its V rows of H BLOCKS ..), in the order of the components". */
    private static void orderOfSeveral() {
        Stream s = Stream.begun().frame(0xC2, 8, 17, 9, 0x21, 0x11, 0x12).dcTable(0).scan(0, 0, 0, 10, 20, 30);
        ScanDesk d = s.data("00001 1".repeat(2 * 5)).ended().taken("two MCUS of five blocks", 1);
        int[][] due = {{1, 2, 3, 4}, {1, 2}, {1, 3, 2, 4}};
        for (int c = 0; c < 3; c++) {
            for (int b = 0; b < due[c].length; b++) {
                Due.is("component " + c + " block " + b, d.coefficient(c, b, 0), due[c][b]);
            }
        }
        d.scan(5, 0, 0, 0, 0);
        d.write();
        Due.written("the first and third", d, HEAD + 6 + 12, hex("00001 1".repeat(8)));
        Stream two = Stream.begun().frame(0xC3, 8, 2, 2, 0x11, 0x11).dcTable(0).scan(2, 0, 0, 10, 20);
        ScanDesk e = two.data("00001 1 00010 10" + "00001 1".repeat(6)).ended().taken("sample by sample", 1);
        int[] first = {129, 130, 130, 131};
        int[] second = {130, 131, 131, 132};
        for (int i = 0; i < 4; i++) {
            Due.is("first " + i, e.sample(0, i % 2, i / 2), first[i]);
            Due.is("second " + i, e.sample(1, i % 2, i / 2), second[i]);
        }
    }

    /** The most blocks that an MCU has: each component goes on from its own block ahead, by its own table. */
    private static void orderOfTenBlocks() {
        int[] other = {1, 1, 0, 0, 0, 0, 0, 0, 0, 0, 0, 0, 0, 0, 0, 0, 0, 2};
        Stream s = Stream.begun().frame(0xC2, 8, 17, 16, 0x22, 0x21, 0x22).dcTable(0).segment(0xC4, other);
        s.segment(0xDA, 3, 10, 0, 20, 0, 30, 0x10, 0, 0, 0);
        String mcu = "00001 1".repeat(4) + "00001 0".repeat(2) + "0 10".repeat(4);
        ScanDesk d = s.data(mcu.repeat(2)).ended().taken("two MCUS of ten blocks", 1);
        int[][] due = {{1, 2, 5, 6, 3, 4, 7, 8}, {-1, -2, -3, -4}, {2, 4, 10, 12, 6, 8, 14, 16}};
        for (int c = 0; c < 3; c++) {
            for (int b = 0; b < due[c].length; b++) {
                Due.is("component " + c + " block " + b, d.coefficient(c, b, 0), due[c][b]);
            }
        }
        d.scan(7, 0, 0, 0, 0);
        d.write();
        String written = "00001 1".repeat(4) + "00001 0".repeat(2) + "00010 10".repeat(4);
        Due.written("ten blocks", d, HEAD + 6 + 14, hex(written.repeat(2)) + "FFD9");
    }

    private static String hex(String bits) {
        StringBuilder text = new StringBuilder();
        for (byte b : new Stream().data(bits).all()) {
            text.append(String.format("%02X", b));
        }
        return text.toString();
    }

    /** "of one alone what has something to show, row by row": blocks that show nothing stay as they are. */
    private static void orderOfOne() {
        ScanDesk d = new ScanDesk();
        d.picture(1, 17, 17, 8, 2, 2, 2);
        for (int b = 0; b < 16; b++) {
            d.put(0, b, 0, b + 1);
            d.put(0, b, 1, 1);
        }
        d.scan(1, 0, 0, 0, 0);
        d.scan(1, 1, 1, 0, 0);
        d.write();
        String row = "00001 1 00001 1";
        String dc = hex("00001 1" + row + "00010 10" + row + "00010 10" + row);
        Due.written("nine blocks", d, HEAD + 3 + 10, dc + "FFDA00080101000101" + "00" + hex("00000001 1".repeat(9))
            + "FFD9");
        d.take();
        Due.is("read", d.read(), 2);
        for (int b = 0; b < 16; b++) {
            boolean shows = b % 4 < 3 && b / 4 < 3;
            Due.is("block " + b, d.coefficient(0, b, 0), shows ? b + 1 : 0);
            Due.is("its band " + b, d.coefficient(0, b, 1), shows ? 1 : 0);
        }
    }

    /** The data of one scan with an interval: each part filled up, RST between the parts. */
    private static Stream parts(Stream s, String one, int units, int n) {
        int restarts = 0;
        for (int from = 0; from < units; from += n) {
            if (from > 0) {
                s.bytes(255, 0xD0 + restarts % 8);
                restarts++;
            }
            s.data(one.repeat(Math.min(n, units - from)));
        }
        return s;
    }

    private static void written(String what, ScanDesk d, int from, Stream due) {
        byte[] all = due.ended().all();
        Due.is(what + " bytes", d.look(9) - from, all.length);
        for (int i = 0; i < all.length; i++) {
            Due.is(what + " byte " + i, d.out(from + i), all[i] & 255);
        }
    }

    /** "With a RESTART interval of n (above 0) behind each n MCUS .. but the last ones". */
    private static void intervalOfMcus() {
        for (int n : new int[] {1, 2, 5, 8, 9, 10, 2000}) {
            ScanDesk d = new ScanDesk();
            d.picture(1, 40, 40, 8, 2, 2, 2);
            d.scan(3, 0, 0, 0, 0);
            d.restart(n);
            d.write();
            written("nine MCUS by " + n, d, HEAD + 3 + 6 + 12, parts(new Stream(), "00000".repeat(5), 9, n));
            Due.is("take", d.take(), d.look(9));
            Due.is("read", d.read(), 1);
            Stream s = Stream.begun().frame(0xC2, 8, 40, 40, 0x22, 0x11).dcTable(0).segment(0xDD, n >> 8, n & 255);
            parts(s.scan(0, 0, 0, 10, 20), "00001 1".repeat(5), 9, n).ended().taken("nine MCUS by " + n, 1);
        }
    }

    /** "(BLOCKS, SAMPLES of one alone)". */
    private static void intervalOfOne() {
        for (int n : new int[] {1, 4, 24, 25, 26}) {
            ScanDesk d = new ScanDesk();
            d.picture(1, 40, 40, 8, 2, 2, 2);
            d.scan(1, 0, 0, 0, 0);
            d.restart(n);
            d.write();
            written("25 blocks by " + n, d, HEAD + 3 + 6 + 10, parts(new Stream(), "00000", 25, n));
            d.clear();
            d.scan(2, 0, 0, 0, 0);
            d.write();
            written("9 blocks by " + n, d, HEAD + 3 + 6 + 10, parts(new Stream(), "00000", 9, n));
        }
        for (int rows : new int[] {1, 2, 3, 4, 5}) {
            ScanDesk d = new ScanDesk();
            d.picture(2, 3, 4, 2, 1, 1, 1);
            for (int i = 0; i < 12; i++) {
                d.set(0, i % 3, i / 3, 2);
            }
            d.scan(1, 1, 0, 0, 0);
            d.restart(3 * rows);
            d.write();
            written("4 rows by " + rows, d, 2 + 13 + 38 + 6 + 10, parts(new Stream(), "00000".repeat(3), 4, rows));
        }
    }

    /** "RST m comes, m from 0 on, modulo 8", in each scan anew. */
    private static void restartNumbers() {
        Stream s = Stream.begun().frame(0xC2, 8, 40, 16, 0x11).dcTable(0).segment(0xDD, 0, 1);
        parts(s.scan(0, 0, 1, 10), "00000", 10, 1);
        parts(s.scan(0, 0, 0x10, 10), "1", 10, 1).ended();
        ScanDesk d = s.taken("RST 0 .. 7, 0 in both", 2);
        Due.is("1", d.coefficient(0, 9, 0), 1);
        Stream wrong = Stream.begun().frame(0xC2, 8, 40, 16, 0x11).dcTable(0).segment(0xDD, 0, 1).scan(0, 0, 1, 10);
        for (int b = 0; b < 8; b++) {
            wrong.data("00000").bytes(255, 0xD0 + b);
        }
        int at = wrong.data("00000").length();
        wrong.bytes(255, 0xD8).refused("RST 8 is none", 7, at);
        Stream on = Stream.begun().frame(0xC2, 8, 16, 8, 0x11).dcTable(0).segment(0xDD, 0, 1);
        parts(on.scan(0, 0, 1, 10), "00000", 2, 1).scan(0, 0, 0x10, 10).data("1");
        at = on.length();
        on.bytes(255, 0xD1).data("1").refused("the next scan doesn't go on", 7, at);
    }

    /** "the bits are filled up, RST m comes ..; predictions and runs begin anew." */
    private static void beginAnew() {
        Stream s = Stream.begun().frame(0xC2, 8, 24, 8, 0x11).dcTable(0).acTable(0).segment(0xDD, 0, 2);
        s.scan(0, 0, 0, 10).data("00010 11 00010 10").bytes(255, 0xD0).data("00001 1");
        s.scan(1, 1, 0, 10).data("00010000 0").bytes(255, 0xD0).data("00000001 1").ended();
        ScanDesk d = s.taken("two and one", 2);
        Due.is("3", d.coefficient(0, 0, 0), 3);
        Due.is("5", d.coefficient(0, 1, 0), 5);
        Due.is("1, not 6", d.coefficient(0, 2, 0), 1);
        Due.is("its band", d.coefficient(0, 2, 1), 1);
        ScanDesk e = new ScanDesk();
        e.picture(1, 24, 8, 8, 1, 1, 1);
        for (int b = 0; b < 3; b++) {
            e.put(0, b, 0, 6);
        }
        e.scan(1, 0, 0, 0, 0);
        e.scan(1, 1, 63, 0, 0);
        e.restart(2);
        e.write();
        Due.written("predicted anew", e, HEAD + 6 + 10, hex("00011 110 00000") + "FFD0" + hex("00011 110"));
        Due.written("runs ended", e, HEAD + 6 + 10 + 5 + 10, hex("00010000 0") + "FFD0" + hex("00000000") + "FFD9");
        Stream odd = Stream.begun().frame(0xC2, 8, 16, 8, 0x11).dcTable(0).segment(0xDD, 0, 1).scan(0, 0, 0, 10);
        odd.bytes(0x00, 255, 0xD0, 0x00).ended().taken("filled up with anything", 1);
        Stream full = Stream.begun().frame(0xC2, 8, 16, 8, 0x11).dcTable(0).segment(0xDD, 0, 1).scan(0, 0, 0, 10);
        full.bytes(0x1F, 255, 0xD0, 0x1A).ended();
        ScanDesk f = full.taken("no bits to fill up", 1);
        Due.is("7 and -5", f.coefficient(0, 0, 0) * 10 + f.coefficient(0, 1, 0), 70 - 5);
    }

    /** "(LOSSLESS: n has to be whole rows.)" */
    private static void wholeRows() {
        for (int n = 0; n <= 13; n++) {
            Stream s = Stream.begun().frame(0xC3, 8, 4, 3, 0x11, 0x11).dcTable(0).segment(0xDD, 0, n);
            int at = s.length() + 1;
            s.scan(1, 0, 0, 10, 20);
            s.refused("n " + n, n % 4 == 0 ? 1 : 5, n % 4 == 0 ? s.length() : at);
            ScanDesk d = new ScanDesk();
            d.picture(2, 4, 3, 8, 2, 1, 1);
            d.scan(2, 1, 0, 0, 0);
            d.restart(n);
            Due.is("n " + n, d.write() > 0 ? 1 : d.write(), n % 4 == 0 ? 1 : -2);
        }
        Stream late = Stream.begun().frame(0xC3, 8, 4, 1, 0x11, 0x11).dcTable(0).segment(0xDD, 0, 3)
            .segment(0xDD, 255, 252);
        late.scan(1, 0, 0, 10).data("00000".repeat(4)).segment(0xDD, 0, 1).ended().taken("only when a scan comes", 1);
    }
}
