/** Promises 11 and 13, progressive: the bits of each kind of scan, written and read. */
final class ProgressiveTest {
    private static final int HEAD = 2 + 13 + 311;

    public static void main(String[] args) {
        dcFirst();
        dcOfSeveral();
        dcHalvedDownwards();
        bandFirst();
        sixteens();
        runs();
        bandAgain();
        sixteensAgain();
        waitingBits();
        restarts();
        restartNumbers();
        shownAlone();
        wrapping();
        tablesAnew();
        tooLarge();
        tooLong();
        edgesOfBands();
        onePlaceAgain();
        greatestDifference();
        longCodes();
        Due.end();
    }

    private static ScanDesk desk(int width, int height, int components, int h, int v) {
        ScanDesk d = new ScanDesk();
        Due.yes("picture", d.picture(1, width, height, 8, components, h, v));
        return d;
    }

    /** The data of the last scan, whose head begins at this place, have to be these bits. */
    private static void data(String what, ScanDesk d, int head, String bits) {
        int from = head + 8 + 2 * d.out(head + 4);
        byte[] want = new Stream().data(bits).ended().all();
        Due.is(what + " bytes", d.look(9) - from, want.length);
        for (int i = 0; i < want.length; i++) {
            Due.is(what + " byte " + i, d.out(from + i), want[i] & 255);
        }
    }

    private static String ac(int symbol) {
        return symbol < 128 ? Stream.low(symbol, 8) : Stream.low(symbol + 128, 9);
    }

    private static void again(String what, ScanDesk d, int scans) {
        Due.is(what + " take", d.take(), d.look(9));
        Due.is(what + " read", d.read(), scans);
        Due.is(what + " errorAt", d.errorAt(), -1);
    }

    private static void dcFirst() {
        ScanDesk d = desk(24, 8, 1, 1, 1);
        d.put(0, 0, 0, 5);
        d.put(0, 1, 0, -2);
        d.put(0, 2, 0, -2);
        d.scan(1, 0, 0, 0, 0);
        Due.is("write", d.write(), HEAD + 10 + 3 + 2);
        Due.written("head", d, 0, "FFD8FFC2000B080008001801011100FFC40135000000000011");
        Due.written("SOS", d, HEAD, "FFDA0008010100000000");
        data("DC first", d, HEAD, "00011 101 00011 000 00000");
        again("DC first", d, 1);
        Due.is("5", d.coefficient(0, 0, 0), 5);
        Due.is("-2", d.coefficient(0, 1, 0), -2);
        Due.is("-2 again", d.coefficient(0, 2, 0), -2);
    }

    private static void dcOfSeveral() {
        ScanDesk d = desk(9, 20, 2, 1, 2);
        Due.is("rows of blocks", d.component(0, 5), 4);
        for (int b = 0; b < 8; b++) {
            d.put(0, b, 0, b + 1);
        }
        for (int b = 0; b < 4; b++) {
            d.put(1, b, 0, -b);
        }
        d.scan(3, 0, 0, 0, 0);
        d.write();
        String one = "00001 1";
        String less = "00001 0";
        data("MCU by MCU", d, HEAD + 3, one + "00010 10" + "00000" + less + "00010 10" + less
            + one + "00010 10" + less + less + "00010 10" + less);
        again("MCU by MCU", d, 1);
        for (int b = 0; b < 8; b++) {
            Due.is("block " + b, d.coefficient(0, b, 0), b + 1);
        }
        Due.is("the other's last", d.coefficient(1, 3, 0), -3);
        Due.is("known of both", d.known(0, 0) + d.known(1, 0), 0);
    }

    private static void dcHalvedDownwards() {
        ScanDesk d = desk(16, 8, 1, 1, 1);
        d.put(0, 0, 0, -5);
        d.put(0, 1, 0, 5);
        d.scan(1, 0, 0, 0, 1);
        d.write();
        data("-3 and 2", d, HEAD, "00010 00 00011 101");
        again("halved", d, 1);
        Due.is("-6", d.coefficient(0, 0, 0), -6);
        Due.is("4", d.coefficient(0, 1, 0), 4);
        Due.is("known as 1", d.known(0, 0), 1);
        d.put(0, 0, 0, -5);
        d.put(0, 1, 0, 5);
        d.scan(1, 0, 0, 0, 2);
        d.scan(1, 0, 0, 2, 1);
        d.scan(1, 0, 0, 1, 0);
        d.write();
        data("the last bit", d, HEAD + 12 + 11, "1 1");
        again("bit by bit", d, 3);
        Due.is("-5", d.coefficient(0, 0, 0), -5);
        Due.is("5", d.coefficient(0, 1, 0), 5);
    }

    private static void bandFirst() {
        ScanDesk d = desk(8, 8, 1, 1, 1);
        d.put(0, 0, 1, -3);
        d.put(0, 0, 4, 16383);
        d.put(0, 0, 5, 1);
        d.put(0, 0, 6, -2);
        d.scan(1, 0, 0, 0, 0);
        d.scan(1, 1, 6, 0, 1);
        d.write();
        data("band first", d, HEAD + 11, ac(0x01) + "0" + ac(0x2D) + Stream.low(8191, 13) + ac(0x11) + "0");
        again("band first", d, 2);
        Due.is("-2, by halving the size", d.coefficient(0, 0, 1), -2);
        Due.is("16382", d.coefficient(0, 0, 4), 16382);
        Due.is("1 is not told", d.coefficient(0, 0, 5), 0);
        Due.is("-2", d.coefficient(0, 0, 6), -2);
        Due.is("known in the band", d.known(0, 6), 1);
        Due.is("not known behind it", d.known(0, 7), -1);
    }

    private static void sixteens() {
        ScanDesk d = desk(8, 8, 1, 1, 1);
        d.put(0, 0, 17, 1);
        d.put(0, 0, 50, 7);
        d.scan(1, 0, 0, 0, 0);
        d.scan(1, 1, 63, 0, 0);
        d.write();
        String sixteen = ac(0xF0);
        data("sixteens", d, HEAD + 11, sixteen + ac(0x01) + "1" + sixteen + sixteen + ac(0x03) + "111" + ac(0));
        again("sixteens", d, 2);
        Due.is("17", d.coefficient(0, 0, 17), 1);
        Due.is("50", d.coefficient(0, 0, 50), 7);
    }

    private static void runs() {
        ScanDesk d = desk(40, 40, 1, 1, 1);
        d.put(0, 6, 1, 1);
        d.put(0, 7, 3, -1);
        d.put(0, 8, 2, 1);
        d.scan(1, 0, 0, 0, 0);
        d.scan(1, 1, 3, 0, 0);
        d.write();
        int second = HEAD + 10 + 16;
        data("runs", d, second, ac(0x20) + "10" + ac(0x01) + "1" + ac(0) + ac(0x21) + "0"
            + ac(0x11) + "1" + ac(0x40) + "0001");
        again("runs", d, 2);
        Due.is("6 1", d.coefficient(0, 6, 1), 1);
        Due.is("7 3", d.coefficient(0, 7, 3), -1);
        Due.is("8 2", d.coefficient(0, 8, 2), 1);
    }

    private static void bandAgain() {
        ScanDesk d = desk(32, 8, 1, 1, 1);
        d.put(0, 0, 1, 3);
        d.put(0, 0, 3, -1);
        d.put(0, 0, 4, -2);
        d.put(0, 1, 2, 5);
        d.put(0, 2, 5, 1);
        d.put(0, 3, 5, 2);
        d.scan(1, 0, 0, 0, 0);
        d.scan(1, 1, 5, 0, 1);
        d.scan(1, 1, 5, 1, 0);
        d.write();
        int first = HEAD + 10 + 3;
        Due.is("an SOS", d.out(first + 1), 0xDA);
        int third = d.look(9) - 2 - 5 - 10;
        Due.is("the third", d.out(third + 1), 0xDA);
        data("band again", d, third, ac(0x11) + "0" + "1" + ac(0x10) + "0" + "0" + "1"
            + ac(0x41) + "1" + ac(0x00) + "0");
        again("band again", d, 3);
        int[][] due = {{0, 1, 3}, {0, 3, -1}, {0, 4, -2}, {1, 2, 5}, {2, 5, 1}, {3, 5, 2}, {0, 2, 0}};
        for (int[] w : due) {
            Due.is("block " + w[0] + " k " + w[1], d.coefficient(0, w[0], w[1]), w[2]);
        }
    }

    /** Sixteen zeros go by as such only ahead of something new; those behind it go into the run. */
    private static void sixteensAgain() {
        ScanDesk d = desk(8, 8, 1, 1, 1);
        d.put(0, 0, 10, 2);
        d.put(0, 0, 20, -3);
        d.put(0, 0, 25, 1);
        d.put(0, 0, 60, 3);
        d.scan(1, 0, 0, 0, 0);
        d.scan(1, 1, 63, 0, 1);
        d.scan(1, 1, 63, 1, 0);
        d.write();
        int third = d.look(9) - 2 - 4 - 10;
        data("sixteens again", d, third, ac(0xF0) + "0" + ac(0x61) + "1" + "1" + ac(0x00) + "1");
        again("sixteens again", d, 3);
        Due.is("10", d.coefficient(0, 0, 10), 2);
        Due.is("20", d.coefficient(0, 0, 20), -3);
        Due.is("25", d.coefficient(0, 0, 25), 1);
        Due.is("60", d.coefficient(0, 0, 60), 3);
    }

    /** Fifteen blocks whose bits wait, the last of them with so many: more than 936 end the run, else the next do. */
    private static void waitingBits() {
        for (int lastBits = 53; lastBits <= 56; lastBits++) {
            ScanDesk d = denseDesk();
            for (int k = lastBits + 1; k < 64; k++) {
                d.put(0, 14, k, 0);
            }
            d.scan(1, 0, 0, 0, 0);
            d.scan(1, 1, 63, 0, 13);
            d.scan(1, 1, 63, 13, 12);
            d.write();
            int bits = 14 * 63 + lastBits;
            String ones = "1".repeat(bits);
            String data = bits > 936
                ? ac(0x30) + "111" + ones + ac(0x30) + "010" + "1".repeat(10 * 63)
                : ac(0x40) + "0000" + ones + "1".repeat(63) + ac(0x30) + "001" + "1".repeat(9 * 63);
            int third = d.look(9) - 2 - new Stream().data(data).length() - 10;
            Due.is("the third scan", d.out(third + 1), 0xDA);
            data(bits + " bits", d, third, data);
            again(bits + " bits", d, 3);
            Due.is("12288", d.coefficient(0, 24, 63), 12288);
            Due.is("12288", d.coefficient(0, 14, lastBits), 12288);
            Due.is("0", d.coefficient(0, 14, lastBits + 1), 0);
        }
    }

    /** 25 blocks whose bands are all 12288: a stream tells them with few bytes. */
    private static ScanDesk denseDesk() {
        int[] table = new int[18];
        table[0] = 16;
        table[1] = 1;
        table[17] = 2;
        Stream s = Stream.begun().frame(0xC2, 8, 40, 40, 0x11).dcTable(0).segment(0xC4, table);
        s.scan(0, 0, 0, 10).data("00000".repeat(25));
        s.scan(1, 63, 12, 10).data("011".repeat(25 * 63)).ended();
        return s.taken("dense", 2);
    }

    private static void restarts() {
        ScanDesk d = desk(24, 16, 1, 1, 1);
        for (int b = 0; b < 6; b++) {
            d.put(0, b, 0, 7);
        }
        d.put(0, 5, 63, 1);
        d.scan(1, 0, 0, 0, 0);
        d.scan(1, 1, 63, 0, 0);
        d.restart(4);
        d.write();
        Due.written("DRI", d, HEAD, "FFDD00040004");
        Due.written("DC", d, HEAD + 6 + 10, "1F0001" + "FFD0" + "1F07");
        Due.written("band", d, HEAD + 6 + 10 + 7 + 10, "203F" + "FFD0");
        String last = ac(0) + ac(0xF0) + ac(0xF0) + ac(0xF0) + ac(0xE1) + "1";
        byte[] bytes = new Stream().data(last).all();
        for (int i = 0; i < bytes.length; i++) {
            Due.is("last " + i, d.out(HEAD + 6 + 10 + 7 + 10 + 4 + i), bytes[i] & 255);
        }
        again("restarts", d, 2);
        Due.is("7", d.coefficient(0, 4, 0), 7);
        Due.is("1", d.coefficient(0, 5, 63), 1);
    }

    /** RST numbers go around behind 7, and none stands behind the last blocks. */
    private static void restartNumbers() {
        ScanDesk d = desk(40, 24, 1, 1, 1);
        d.scan(1, 0, 0, 0, 0);
        d.restart(1);
        d.write();
        int at = HEAD + 6 + 10;
        for (int b = 0; b < 15; b++) {
            Due.is("data " + b, d.out(at), 0x07);
            Due.is("FF " + b, d.out(at + 1), 255);
            Due.is("RST " + b, d.out(at + 2), b == 14 ? 0xD9 : 0xD0 + b % 8);
            at += 3;
        }
        Due.is("bytes", d.look(9), at);
        again("restart numbers", d, 1);
        d.restart(5);
        d.scan(1, 0, 0, 0, 0);
        Due.is("three rows", d.write(), HEAD + 6 + 10 + 3 * 4 + 2 * 2 + 2);
        d.restart(15);
        Due.is("an interval of all", d.write(), HEAD + 6 + 10 + 10 + 2);
    }

    /** Alone, blocks that have nothing to show are not told; together they are. */
    private static void shownAlone() {
        ScanDesk d = desk(17, 9, 2, 2, 2);
        Due.is("blocks in a row", d.component(0, 4), 4);
        for (int b = 0; b < 8; b++) {
            d.put(0, b, 0, 1 << b);
        }
        d.scan(1, 0, 0, 0, 0);
        d.write();
        again("alone", d, 1);
        int[] due = {1, 2, 4, 0, 16, 32, 64, 0};
        for (int b = 0; b < 8; b++) {
            Due.is("alone " + b, d.coefficient(0, b, 0), due[b]);
        }
        for (int b = 0; b < 8; b++) {
            d.put(0, b, 0, 1 << b);
        }
        d.scan(3, 0, 0, 0, 0);
        d.write();
        again("together", d, 1);
        for (int b = 0; b < 8; b++) {
            Due.is("together " + b, d.coefficient(0, b, 0), 1 << b);
        }
    }

    /** All goes by 32 bits: sums of differences, and what is moved up. */
    private static void wrapping() {
        Stream s = Stream.begun().frame(0xC2, 12, 40, 40, 0x11).dcTable(0).acTable(0);
        s.scan(0, 0, 13, 10).data(("01111" + "1".repeat(15)).repeat(25)).ended();
        ScanDesk d = s.taken("wrapping", 1);
        int sum = 0;
        for (int b = 0; b < 25; b++) {
            sum += 32767;
            Due.is("block " + b, d.coefficient(0, b, 0), sum << 13);
        }
        Due.is("bits are told", d.look(3), 12);
        d.scan(1, 0, 0, 0, 0);
        Due.is("sizes above 15", d.write(), -4);
        d.clear();
        d.scan(1, 0, 0, 0, 13);
        Due.is("where it went around the difference is large", d.write(), -4);
    }

    /** A table told again is the latest, and each component names its own. */
    private static void tablesAnew() {
        int[] one = new int[19];
        one[0] = 2;
        one[1] = 2;
        one[17] = 3;
        one[18] = 1;
        Stream s = Stream.begun().frame(0xC2, 8, 8, 8, 0x11, 0x11).dcTable(2).segment(0xC4).segment(0xC4, one).dcTable(1);
        s.segment(0xDA, 2, 10, 0x20, 20, 0x10, 0, 0, 0).data("0 101 00010 11").ended();
        ScanDesk d = s.taken("tables anew", 1);
        Due.is("by table 2", d.coefficient(0, 0, 0), 5);
        Due.is("by table 1", d.coefficient(1, 0, 0), 3);
    }

    private static void tooLarge() {
        Stream s = Stream.oneBlock();
        s.scan(0, 0, 0, 10).data("00000");
        s.scan(1, 63, 1, 10).data(Stream.low(0x0F, 8) + "1".repeat(15) + Stream.low(0, 8)).ended();
        ScanDesk d = s.taken("large", 2);
        Due.is("65534", d.coefficient(0, 0, 1), 65534);
        d.scan(1, 0, 0, 0, 0);
        int n = d.write();
        d.scan(1, 1, 1, 0, 0);
        Due.is("a coefficient of 16 bits", d.write(), -4);
        Due.is("what was written stays", d.look(9), n);
        Due.is("its bytes too", d.out(n - 1), 0xD9);
        d.clear();
        d.scan(1, 0, 0, 0, 0);
        d.scan(1, 1, 1, 0, 1);
        Due.is("halved it can be told", d.write() > n ? 1 : 0, 1);
    }

    /** 4725 coefficients of 14 bits each, read from few bytes; then one more that can't be told at all. */
    private static void tooLong() {
        for (int last = 0; last < 2; last++) {
            int[] table = new int[19];
            table[0] = 16;
            table[1] = 1;
            table[2] = 1;
            table[17] = 1;
            table[18] = 15;
            Stream s = Stream.begun().frame(0xC2, 8, 40, 40, 0x11, 0x11, 0x11).dcTable(0).segment(0xC4, table);
            s.scan(0, 0, 0, 10, 20, 30).data("00000".repeat(75));
            s.scan(1, 63, 13, 10).data("01".repeat(25 * 63)).scan(1, 63, 13, 20).data("01".repeat(25 * 63));
            String end = last == 0 ? "01" : "10" + "1".repeat(15);
            s.scan(1, 63, 13, 30).data("01".repeat(25 * 63 - 1) + end).ended();
            ScanDesk d = s.taken("long", 4);
            d.scan(7, 0, 0, 0, 0);
            int n = d.write();
            d.scan(1, 1, 63, 0, 0);
            d.scan(2, 1, 63, 0, 0);
            d.scan(4, 1, 63, 0, 0);
            Due.is("too long", d.write(), last == 0 ? -3 : -4);
            Due.is("what was written stays", d.look(9), n);
            Due.is("its bytes too", d.out(n - 1), 0xD9);
        }
    }

    /** Fifteen zeros need no sixteens; something new at SE is told behind sixteens. */
    private static void edgesOfBands() {
        ScanDesk d = desk(8, 8, 1, 1, 1);
        d.put(0, 0, 16, 5);
        d.put(0, 0, 63, -2);
        d.scan(1, 0, 0, 0, 0);
        d.scan(1, 1, 63, 0, 2);
        d.scan(1, 1, 63, 2, 1);
        d.write();
        data("fifteen zeros", firstTwo(d), HEAD + 11, ac(0xF1) + "1" + ac(0));
        String again = ac(0xF0) + "0" + ac(0xF0) + ac(0xF0) + ac(0xD1) + "0";
        int third = d.look(9) - 2 - new Stream().data(again).length() - 10;
        Due.is("the third scan", d.out(third + 1), 0xDA);
        data("new at SE", d, third, again);
        again("edges", d, 3);
        Due.is("4", d.coefficient(0, 0, 16), 4);
        Due.is("-2", d.coefficient(0, 0, 63), -2);
    }

    private static ScanDesk firstTwo(ScanDesk from) {
        ScanDesk d = desk(8, 8, 1, 1, 1);
        d.put(0, 0, 16, from.coefficient(0, 0, 16));
        d.put(0, 0, 63, from.coefficient(0, 0, 63));
        d.scan(1, 0, 0, 0, 0);
        d.scan(1, 1, 63, 0, 2);
        d.write();
        return d;
    }

    /** A zero, a bit that waits and something new, each alone in its band. */
    private static void onePlaceAgain() {
        ScanDesk d = desk(24, 8, 1, 1, 1);
        d.put(0, 1, 9, 3);
        d.put(0, 2, 9, 1);
        d.scan(1, 0, 0, 0, 0);
        d.scan(1, 9, 9, 0, 1);
        d.scan(1, 9, 9, 1, 0);
        d.write();
        String bits = ac(0x10) + "0" + "1" + ac(0x01) + "1";
        data("one place", d, d.look(9) - 2 - 3 - 10, bits);
        again("one place", d, 3);
        Due.is("0", d.coefficient(0, 0, 9), 0);
        Due.is("3", d.coefficient(0, 1, 9), 3);
        Due.is("1", d.coefficient(0, 2, 9), 1);
    }

    private static void greatestDifference() {
        ScanDesk d = desk(16, 8, 1, 1, 1);
        d.put(0, 0, 0, -16383);
        d.put(0, 1, 0, 16383);
        d.scan(1, 0, 0, 0, 0);
        d.write();
        data("size 15", d, HEAD, "01110" + "0".repeat(14) + "01111" + Stream.low(32766, 15));
        again("size 15", d, 1);
        Due.is("16383", d.coefficient(0, 1, 0), 16383);
    }

    private static void longCodes() {
        int[] table = new int[19];
        table[1] = 1;
        table[16] = 1;
        table[17] = 0;
        table[18] = 2;
        Stream s = Stream.begun().frame(0xC2, 8, 16, 8, 0x11).segment(0xC4, table);
        s.scan(0, 0, 0, 10).data("0" + "1000000000000000" + "10").ended();
        ScanDesk d = s.taken("sixteen bits", 1);
        Due.is("0", d.coefficient(0, 0, 0), 0);
        Due.is("2", d.coefficient(0, 1, 0), 2);
    }
}
