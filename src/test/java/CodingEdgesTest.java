/** Term 2, how blocks and samples are coded: each method tests the boundary cases of the sentence that it quotes. */
final class CodingEdgesTest {
    private static final int HEAD = 2 + 13 + 311;

    public static void main(String[] args) {
        dcHalvedDownwards();
        dcFromBlockAhead();
        dcOneBit();
        bandHalvedInSize();
        bandZeros();
        bandSizes();
        bandRunLengths();
        bandRunsEnded();
        againSixteens();
        againNewOnes();
        againReadSixteens();
        againRuns();
        againWaitingBits();
        roundBy32Bits();
        losslessFirst();
        losslessRows();
        losslessHalfWord();
        losslessRound();
        losslessPoint();
        losslessGreatest();
        Due.end();
    }

    private static String ac(int symbol) {
        return symbol < 128 ? Stream.low(symbol, 8) : Stream.low(symbol + 128, 9);
    }

    private static String number(int difference) {
        int size = 32 - Integer.numberOfLeadingZeros(Math.abs(difference));
        return Stream.low(size, 5) + Stream.low(difference < 0 ? difference - 1 : difference, size);
    }

    /** The data of the last scan have to be these bits, with RST 0, 1 .. between the parts. */
    private static void last(String what, ScanDesk d, String... parts) {
        Stream s = new Stream().data(parts[0]);
        for (int i = 1; i < parts.length; i++) {
            s.bytes(255, 0xD0 + i - 1).data(parts[i]);
        }
        byte[] all = s.ended().all();
        int from = d.look(9) - all.length;
        Due.is(what + " behind its head", d.out(from - 10) * 256 + d.out(from - 9), 0xFFDA);
        for (int i = 0; i < all.length; i++) {
            Due.is(what + " byte " + i, d.out(from + i), all[i] & 255);
        }
    }

    private static ScanDesk desk(int blocks) {
        ScanDesk d = new ScanDesk();
        int height = blocks > 5 ? blocks / 5 : 1;
        Due.yes("picture", d.picture(1, 8 * blocks / height, 8 * height, 8, 1, 1, 1));
        return d;
    }

    private static void readAgain(ScanDesk d, int scans) {
        Due.is("take", d.take(), d.look(9));
        Due.is("read", d.read(), scans);
    }

    /** "DC first: the difference of the DC, halved AL times downwards". */
    private static void dcHalvedDownwards() {
        int[] values = {-1, 0, 1, -2, -16383, 16383, 8192, -8193};
        for (int al = 0; al <= 13; al++) {
            for (int value : values) {
                ScanDesk d = desk(1);
                d.put(0, 0, 0, value);
                d.scan(1, 0, 0, 0, al);
                d.write();
                int halved = Math.floorDiv(value, 1 << al);
                last(value + " halved " + al, d, number(halved));
                readAgain(d, 1);
                Due.is(value + " halved " + al, d.coefficient(0, 0, 0), halved * (1 << al));
            }
        }
    }

    /** "from that of the component's BLOCK ahead (0 at first)": each halved for itself, ahead as they are told. */
    private static void dcFromBlockAhead() {
        ScanDesk d = desk(3);
        d.put(0, 0, 0, 3);
        d.put(0, 1, 0, 4);
        d.put(0, 2, 0, -1);
        d.scan(1, 0, 0, 0, 1);
        d.write();
        last("1, 2, -1", d, number(1) + number(1) + number(-3));
        ScanDesk two = new ScanDesk();
        two.picture(1, 16, 8, 8, 2, 1, 1);
        two.put(0, 0, 0, 100);
        two.put(1, 1, 0, 9);
        two.scan(3, 0, 0, 0, 0);
        two.write();
        Due.is("of its own component", two.look(9), HEAD + 3 + 12 + (12 + 5 + 12 + 9 + 7) / 8 + 2);
        readAgain(two, 1);
        Due.is("9", two.coefficient(1, 1, 0), 9);
        Due.is("0", two.coefficient(1, 0, 0) + two.coefficient(0, 1, 0), 0);
    }

    /** "DC again: the one bit AL." */
    private static void dcOneBit() {
        for (int value : new int[] {-1, -2, 0x2AAA, -0x2AAA, 16383, -16383, 0}) {
            ScanDesk d = desk(1);
            d.put(0, 0, 0, value);
            d.scan(1, 0, 0, 0, 13);
            for (int al = 12; al >= 0; al--) {
                d.scan(1, 0, 0, al + 1, al);
                d.write();
                last("bit " + al, d, "" + (value >> al & 1));
            }
            readAgain(d, 14);
            Due.is("bit by bit", d.coefficient(0, 0, 0), value);
        }
    }

    /** "Bands first: the size halved AL times": towards 0, what becomes 0 isn't told. */
    private static void bandHalvedInSize() {
        for (int al = 0; al <= 13; al++) {
            for (int value : new int[] {-1, 1, 2, -3, 16383, -16383, -8192, 8191}) {
                ScanDesk d = desk(1);
                d.put(0, 0, 1, value);
                d.scan(1, 0, 0, 0, 0);
                d.scan(1, 1, 1, 0, al);
                d.write();
                int halved = value / (1 << al);
                int size = 32 - Integer.numberOfLeadingZeros(Math.abs(halved));
                last(value + " halved " + al, d, halved == 0 ? ac(0) : ac(size) + number(halved).substring(5));
                readAgain(d, 2);
                Due.is(value + " halved " + al, d.coefficient(0, 0, 1), halved * (1 << al));
            }
        }
    }

    /** "runs and sizes": 0, 15, 16, 17, 31, 32 and the most zeros ahead of something. */
    private static void bandZeros() {
        for (int zeros : new int[] {0, 1, 7, 8, 14, 15, 16, 17, 31, 32, 47, 48, 61, 62}) {
            ScanDesk d = desk(1);
            d.put(0, 0, 1 + zeros, -1);
            d.scan(1, 0, 0, 0, 0);
            d.scan(1, 1, 63, 0, 0);
            d.write();
            String end = zeros == 62 ? "" : ac(0);
            last(zeros + " zeros", d, ac(0xF0).repeat(zeros / 16) + ac(zeros % 16 * 16 + 1) + "0" + end);
            readAgain(d, 2);
            Due.is("-1", d.coefficient(0, 0, 1 + zeros), -1);
        }
    }

    /** "runs and sizes": the sizes up to 15, and the codes around 127 and 128. */
    private static void bandSizes() {
        for (int zeros : new int[] {0, 7, 8}) {
            String most = zeros == 8 ? Stream.low(0x8F, 8) : Stream.low(16 * zeros + 15, 8);
            Stream s = Stream.oneBlock().scan(0, 0, 0, 10).data("00000");
            s.scan(1, 63, 0, 10).data(most + "1".repeat(15) + ac(1) + "1" + ac(0x0F) + "0".repeat(15) + ac(0)).ended();
            ScanDesk d = s.taken("size 15", 2);
            Due.is("32767", d.coefficient(0, 0, 1 + zeros), 32767);
            Due.is("-32767", d.coefficient(0, 0, 3 + zeros), -32767);
            d.scan(1, 0, 0, 0, 0);
            d.scan(1, 1, 63, 0, 0);
            d.write();
            last("size 15", d, ac(16 * zeros + 15) + "1".repeat(15) + ac(1) + "1" + ac(0x0F) + "0".repeat(15) + ac(0));
        }
        ScanDesk d = desk(1);
        d.put(0, 0, 9, 1);
        d.scan(1, 0, 0, 0, 0);
        d.scan(1, 1, 9, 0, 0);
        d.write();
        last("symbol 129 has nine bits", d, "100000001" + "1");
    }

    /** "EOB runs of 1 .. (the greatest that can be told ..)": one run for all that follow. */
    private static void bandRunLengths() {
        int[] blocks = {1, 2, 3, 4, 5, 10, 15, 20, 25};
        String[] due = {ac(0), ac(0x10) + "0", ac(0x10) + "1", ac(0x20) + "00", ac(0x20) + "01", ac(0x30) + "010",
            ac(0x30) + "111", ac(0x40) + "0100", ac(0x40) + "1001"};
        for (int i = 0; i < blocks.length; i++) {
            ScanDesk d = desk(blocks[i]);
            d.scan(1, 0, 0, 0, 1);
            d.scan(1, 1, 63, 0, 1);
            d.write();
            last("a run of " + blocks[i], d, due[i]);
            d.scan(1, 1, 63, 1, 0);
            d.write();
            last("again, a run of " + blocks[i], d, due[i]);
            readAgain(d, 3);
        }
    }

    /** "ended ahead of what isn't 0, at the end, at a RESTART". */
    private static void bandRunsEnded() {
        ScanDesk d = desk(5);
        d.put(0, 2, 3, 1);
        d.scan(1, 0, 0, 0, 0);
        d.scan(1, 1, 5, 0, 0);
        d.write();
        last("ahead of block 2", d, ac(0x10) + "0" + ac(0x21) + "1" + ac(0x10) + "1");
        d.put(0, 2, 5, 1);
        d.write();
        last("block 2 is full", d, ac(0x10) + "0" + ac(0x21) + "1" + ac(0x11) + "1" + ac(0x10) + "0");
        d.put(0, 4, 5, 1);
        d.write();
        last("nothing at the end", d, ac(0x10) + "0" + ac(0x21) + "1" + ac(0x11) + "1" + ac(0x00) + ac(0x41) + "1");
        d.restart(1);
        d.write();
        last("each for itself", d, ac(0), ac(0), ac(0x21) + "1" + ac(0x11) + "1", ac(0), ac(0x41) + "1");
        readAgain(d, 2);
        Due.is("block 4", d.coefficient(0, 4, 5), 1);
    }

    /** Two scans ahead (the DC, and places 1 to 63 known as 1), then all of them again. */
    private static ScanDesk again(int blocks, int[]... values) {
        ScanDesk d = desk(blocks);
        for (int[] v : values) {
            d.put(0, v[0], v[1], v[2]);
        }
        d.scan(1, 0, 0, 0, 0);
        d.scan(1, 1, 63, 0, 1);
        d.scan(1, 1, 63, 1, 0);
        d.write();
        return d;
    }

    private static void readBack(ScanDesk d, int[]... values) {
        readAgain(d, 3);
        int sum = 0;
        for (int b = 0; b < d.component(0, 4); b++) {
            for (int k = 0; k < 64; k++) {
                sum += d.coefficient(0, b, k) != 0 ? 1 : 0;
            }
        }
        Due.is("no others", sum, values.length);
        for (int[] v : values) {
            Due.is("block " + v[0] + " place " + v[1], d.coefficient(0, v[0], v[1]), v[2]);
        }
    }

    private static void againIs(String what, String bits, int blocks, int[]... values) {
        ScanDesk d = again(blocks, values);
        last(what, d, bits);
        readBack(d, values);
    }

    /** "bands again: figures G.7 to G.9": sixteens only ahead of something new, and ahead of them a run is ended. */
    private static void againSixteens() {
        againIs("fifteen zeros", ac(0xF1) + "1" + ac(0), 1, new int[] {0, 16, 1});
        againIs("sixteen zeros", ac(0xF0) + ac(0x01) + "0" + ac(0), 1, new int[] {0, 17, -1});
        againIs("seventeen zeros", ac(0xF0) + ac(0x11) + "0" + ac(0), 1, new int[] {0, 18, -1});
        againIs("32 zeros", ac(0xF0) + ac(0xF0) + ac(0x01) + "1" + ac(0), 1, new int[] {0, 33, 1});
        againIs("new at 63", ac(0xF0).repeat(3) + ac(0xE1) + "1", 1, new int[] {0, 63, 1});
        againIs("none new behind", ac(0) + "1", 1, new int[] {0, 60, 3});
        againIs("a run ahead of sixteens", ac(0x10) + "0" + ac(0xF0) + ac(0x01) + "1" + ac(0), 3, new int[] {2, 17, 1});
        againIs("a bit among sixteen zeros", ac(0xF0) + "1" + ac(0x01) + "1" + ac(0), 1, new int[] {0, 9, -3},
            new int[] {0, 18, 1});
        againIs("a bit behind sixteen zeros", ac(0xF0) + ac(0x01) + "1" + "0" + ac(0), 1, new int[] {0, 17, 2},
            new int[] {0, 18, 1});
        againIs("a run and its bits ahead of sixteens", ac(0x00) + "1" + ac(0xF0) + "0" + ac(0x01) + "0" + ac(0), 2,
            new int[] {0, 1, 3}, new int[] {1, 1, 2}, new int[] {1, 18, -1});
    }

    /** "figures G.7 to G.9": zeros are counted anew behind something new, bits come behind the next code. */
    private static void againNewOnes() {
        againIs("two side by side", ac(0x01) + "1" + ac(0x01) + "0" + ac(0), 1, new int[] {0, 1, 1},
            new int[] {0, 2, -1});
        againIs("zeros between", ac(0x21) + "1" + ac(0x31) + "0" + ac(0), 1, new int[] {0, 3, 1}, new int[] {0, 7, -1});
        againIs("bits ahead and between", ac(0x11) + "1" + "1" + ac(0x11) + "1" + "0" + ac(0) + "1", 1,
            new int[] {0, 2, 3},
            new int[] {0, 3, 1}, new int[] {0, 4, -2}, new int[] {0, 6, 1}, new int[] {0, 63, -3});
        againIs("larger ones tell their last bit", ac(0) + "1011", 1, new int[] {0, 1, 16383}, new int[] {0, 2, -16382},
            new int[] {0, 3, 5}, new int[] {0, 4, -7});
    }

    /** Sixteen zeros leave the sixteenth 0 when they are read again, and end at SE at the most. */
    private static void againReadSixteens() {
        Stream s = Stream.oneBlock().scan(0, 0, 0, 10).data("00000").scan(1, 17, 1, 10)
            .data(Stream.low(0x01, 8) + "1" + ac(0));
        s.scan(1, 17, 0x10, 10).data(Stream.low(0xF0, 8) + "1").ended();
        ScanDesk d = s.taken("up to SE", 3);
        for (int k = 1; k < 64; k++) {
            Due.is("place " + k, d.coefficient(0, 0, k), k == 1 ? 3 : 0);
        }
        s = Stream.oneBlock().scan(0, 0, 0, 10).data("00000").scan(1, 18, 1, 10)
            .data(Stream.low(0xF0, 8) + Stream.low(1, 8) + "0" + ac(0));
        s.scan(1, 18, 0x10, 10).data(Stream.low(0xF0, 8) + Stream.low(0x01, 8) + "1" + "1").ended();
        d = s.taken("behind them", 3);
        for (int k = 1; k < 64; k++) {
            Due.is("place " + k, d.coefficient(0, 0, k), k == 17 ? -3 : k == 18 ? 1 : 0);
        }
    }

    /** "EOB runs likewise": over blocks whose bits wait, ended ahead of what is new. */
    private static void againRuns() {
        againIs("bits of two blocks", ac(0x10) + "0" + "10", 2, new int[] {0, 5, 3}, new int[] {1, 9, -2});
        againIs("from the middle of a block", ac(0x01) + "1" + ac(0x10) + "1" + "1" + "0" + "1", 3, new int[] {0, 1, 1},
            new int[] {0, 3, 3}, new int[] {1, 1, 2}, new int[] {2, 63, 3});
        againIs("ended ahead of what is new", ac(0x00) + "1" + ac(0x01) + "1" + ac(0x00), 2, new int[] {0, 1, 3},
            new int[] {1, 1, 1});
        ScanDesk d = again(3, new int[] {0, 1, 3}, new int[] {1, 1, 2}, new int[] {2, 1, 3});
        d.restart(2);
        d.write();
        last("ended at a RESTART", d, ac(0x10) + "0" + "10", ac(0x00) + "1");
        readBack(d, new int[] {0, 1, 3}, new int[] {1, 1, 2}, new int[] {2, 1, 3});
    }

    /** "also ended when, behind a BLOCK, more than 936 bits of theirs wait." */
    private static void againWaitingBits() {
        int[] table = {16, 1, 0, 0, 0, 0, 0, 0, 0, 0, 0, 0, 0, 0, 0, 0, 0, 2};
        for (int more = -1; more <= 1; more++) {
            Stream s = Stream.begun().frame(0xC2, 8, 40, 40, 0x11).dcTable(0).segment(0xC4, table);
            s.scan(0, 0, 0, 10).data("00000".repeat(25)).scan(1, 52, 12, 10).data("010".repeat(25 * 52)).ended();
            ScanDesk d = s.taken("52 bits a block", 2);
            if (more < 0) {
                d.put(0, 17, 52, 0);
            } else if (more > 0) {
                d.put(0, 3, 60, 8192);
            }
            d.scan(1, 0, 0, 0, 0);
            d.scan(1, 1, 63, 0, 13);
            d.scan(1, 1, 63, 13, 12);
            d.write();
            String zeros = "0".repeat(18 * 52 + more);
            String rest = "0".repeat(6 * 52);
            last((936 + more) + " bits", d, more > 0 ? ac(0x40) + "0010" + zeros + ac(0x20) + "11" + rest + "0".repeat(52)
                : ac(0x40) + "0011" + zeros + "0".repeat(52) + ac(0x20) + "10" + rest);
        }
    }

    /** "(All by 32 bits, round.)" */
    private static void roundBy32Bits() {
        Stream s = Stream.begun().frame(0xC2, 8, 40, 40, 0x11).dcTable(0).scan(0, 0, 13, 10);
        ScanDesk d = s.data(("01111" + "1".repeat(15)).repeat(25)).ended().taken("sums", 1);
        for (int b = 0; b < 25; b++) {
            Due.is("block " + b, d.coefficient(0, b, 0), (int) (32767L * (b + 1) << 13));
        }
        Due.yes("it went around", d.coefficient(0, 8, 0) < 0 && d.coefficient(0, 7, 0) > 0);
        d.scan(1, 0, 0, 0, 0);
        Due.is("too large to be told", d.write(), -4);
        d = Stream.begun().frame(0xC2, 8, 16, 8, 0x11).dcTable(0).scan(0, 0, 13, 10)
            .data("01111" + "1".repeat(15) + "01111" + "0".repeat(15)).ended().taken("up and down", 1);
        Due.is("up", d.coefficient(0, 0, 0), 32767 << 13);
        Due.is("and down", d.coefficient(0, 1, 0), 0);
    }

    private static ScanDesk samples(int bits, int width, int... values) {
        ScanDesk d = new ScanDesk();
        Due.yes("picture", d.picture(2, width, values.length / width, bits, 1, 1, 1));
        for (int i = 0; i < values.length; i++) {
            Due.yes("set", d.set(0, i % width, i / width, values[i]));
        }
        return d;
    }

    /** "the first one of all (and behind a RESTART) is predicted as 2^(bits - POINT - 1)". */
    private static void losslessFirst() {
        for (int bits = 2; bits <= 16; bits++) {
            for (int point = 0; point < bits; point++) {
                int most = (1 << bits) - 1;
                ScanDesk d = samples(bits, 1, most, 0);
                d.scan(1, 1 + point % 7, 0, 0, point);
                d.restart(1);
                d.write();
                int middle = 1 << bits - point - 1;
                String down = middle == 32768 ? "10000" : number(-middle);
                last(bits + " bits, POINT " + point, d, number((most >> point) - middle), down);
                readAgain(d, 1);
                Due.is("the first", d.sample(0, 0, 0), most >> point << point);
                Due.is("behind a RESTART", d.sample(0, 0, 1), 0);
            }
        }
    }

    /** "the rest of that row by what is left of it, the first one of other rows by what is above it." */
    private static void losslessRows() {
        for (int p = 1; p <= 7; p++) {
            ScanDesk d = samples(8, 3, 10, 20, 40, 15, 200, 90, 100, 101, 103);
            d.scan(1, p, 0, 0, 0);
            int[] first = {15, 20, 10, 15 + 20 - 10, 15 + 5, 20 + 2, 17};
            int[] second = {200, 40, 20, 200 + 40 - 20, 200 + 10, 40 + 90, 120};
            int[] third = {100, 200, 15, 100 + 200 - 15, 100 + 92, 200 + 42, 150};
            int[] fourth = {101, 90, 200, 101 + 90 - 200, 101 - 55, 90 - 50, 95};
            d.write();
            last("predictor " + p, d, number(10 - 128) + number(10) + number(20) + number(5) + number(200 - first[p - 1])
                + number(90 - second[p - 1]) + number(85) + number(101 - third[p - 1]) + number(103 - fourth[p - 1]));
            d.restart(3);
            d.write();
            last("behind a RESTART", d, number(10 - 128) + number(10) + number(20), number(15 - 128) + number(185)
                + number(-110),
                number(100 - 128) + number(1) + number(2));
            readAgain(d, 1);
            Due.is("the last", d.sample(0, 2, 2), 103);
        }
    }

    /** "a difference of 32768 as size 16 without bits". */
    private static void losslessHalfWord() {
        int[] steps = {32767, 32768, 32769, 65535, 1, 0};
        String[] due = {number(32767), "10000", number(-32767), number(-1), number(1), number(0)};
        for (int i = 0; i < steps.length; i++) {
            ScanDesk d = samples(16, 2, 100, 100 + steps[i] & 65535);
            d.scan(1, 1, 0, 0, 0);
            d.write();
            last("a step of " + steps[i], d, number(100 - 32768) + due[i]);
            readAgain(d, 1);
            Due.is("read", d.sample(0, 1, 0), 100 + steps[i] & 65535);
        }
        ScanDesk d = samples(16, 2, 50000, 50000 - 32768);
        d.scan(1, 1, 0, 0, 0);
        d.write();
        last("32768 down", d, number(50000 - 32768) + "10000");
        readAgain(d, 1);
        Due.is("read", d.sample(0, 1, 0), 50000 - 32768);
    }

    /** "modulo 2^16 (..: a SAMPLE is 0 .. 65535, also beyond its bits)". */
    private static void losslessRound() {
        Stream s = Stream.begun().frame(0xC3, 2, 4, 1, 0x11).dcTable(0).scan(1, 0, 0, 10);
        ScanDesk d = s.data(number(-3) + number(1) + "10000" + number(32767)).ended().taken("around", 1);
        int[] due = {65535, 0, 32768, 65535};
        for (int x = 0; x < 4; x++) {
            Due.is("sample " + x, d.sample(0, x, 0), due[x]);
        }
        d.scan(1, 1, 0, 0, 0);
        d.write();
        last("written as it was read", d, number(-3) + number(1) + "10000" + number(32767));
        s = Stream.begun().frame(0xC3, 16, 2, 2, 0x11).dcTable(0).scan(4, 0, 0, 10);
        d = s.data(number(32767) + number(-1) + number(1) + number(0)).ended().taken("predicted beyond", 1);
        Due.is("65535, 65534, 0", d.sample(0, 0, 0) - d.sample(0, 1, 0) + d.sample(0, 0, 1), 1);
        Due.is("0 + 65534 - 65535", d.sample(0, 1, 1), 65535);
    }

    /** "predicted from the numbers as they were decoded, which are moved up by POINT behind it, likewise". */
    private static void losslessPoint() {
        Stream s = Stream.begun().frame(0xC3, 16, 3, 1, 0x11).dcTable(0).scan(1, 0, 15, 10);
        ScanDesk d = s.data(number(2) + number(-1) + number(-1)).ended().taken("POINT 15", 1);
        Due.is("3 moved up", d.sample(0, 0, 0), 32768);
        Due.is("2 moved up is 65536", d.sample(0, 1, 0), 0);
        Due.is("1 moved up", d.sample(0, 2, 0), 32768);
        s = Stream.begun().frame(0xC3, 8, 2, 2, 0x11).dcTable(0).scan(7, 0, 4, 10);
        d = s.data(number(-1) + number(0) + number(0x1000) + number(0)).ended().taken("POINT 4", 1);
        Due.is("by (0x1007 + 7) / 2", d.sample(0, 1, 1), 0x8070);
    }

    /** The most samples that a picture has, in one scan, to the last one. */
    private static void losslessGreatest() {
        int[] table = {0, 1, 1, 0, 0, 0, 0, 0, 0, 0, 0, 0, 0, 0, 0, 0, 0, 0, 1};
        Stream s = Stream.begun().frame(0xC3, 16, 40, 40, 0x11, 0x11, 0x11).segment(0xC4, table)
            .scan(1, 0, 0, 10, 20, 30);
        ScanDesk d = s.data("0".repeat(4797) + "101".repeat(3)).ended().taken("4800 samples", 1);
        for (int c = 0; c < 3; c++) {
            Due.is("the last but one", d.sample(c, 38, 39), 32768);
            Due.is("the last", d.sample(c, 39, 39), 32769);
        }
        d.scan(7, 1, 0, 0, 0);
        Due.is("written", d.write(), 2 + 19 + 38 + 14 + (4800 * 5 + 3 + 7) / 8 + 2);
        readAgain(d, 1);
        Due.is("the last", d.sample(2, 39, 39), 32769);
    }
}
