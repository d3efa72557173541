/** Term 1, PICTURES: each method tests the boundary cases of the sentence that it quotes. */
final class PictureEdgesTest {
    private static final int[] LENGTHS = {1, 2, 7, 8, 9, 15, 16, 17, 23, 24, 25, 31, 32, 33, 39, 40};
    private static final int[][] FACTORS = {
        {0x11}, {0x22}, {0x21}, {0x12}, {0x11, 0x22}, {0x12, 0x21}, {0x21, 0x11, 0x11}, {0x11, 0x11, 0x22},
            {0x11, 0x21, 0x12},
        {0x22, 0x22, 0x12}, {0x11, 0x11, 0x11},
    };

    public static void main(String[] args) {
        kinds();
        sizes();
        numbersOfComponents();
        factors();
        bits();
        measures();
        blocksThatShow();
        rowsOfBlocks();
        allZeroAtFirst();
        knownAsLatest();
        Due.end();
    }

    private static int up(int whole, int part) {
        return whole / part + (whole % part > 0 ? 1 : 0);
    }

    /** Whether a frame can be: by picture(), if it has such, and as a SOF. */
    private static void frame(boolean can, int kind, int width, int height, int bits, int... factors) {
        String what = "kind " + kind + " " + width + " by " + height + " of " + bits + " bits";
        Stream s = Stream.begun().frame(0xC1 + kind, bits, width, height, factors);
        if (can) {
            ScanDesk d = s.ended().taken(what, 0);
            Due.is(what, d.look(0) * 1000000 + d.look(1) * 10000 + d.look(2) * 100 + d.look(3), kind * 1000000
                + width * 10000 + height * 100 + bits);
        } else {
            s.refused(what, 3, 3);
        }
        boolean others = true;
        for (int c = 1; c < factors.length; c++) {
            others &= factors[c] == 0x11;
        }
        if (others && factors.length > 0) {
            boolean made = new ScanDesk().picture(kind, width, height, bits, factors.length, factors[0] >> 4,
                factors[0] & 15);
            Due.is(what + " picture()", made ? 1 : 0, can ? 1 : 0);
        }
    }

    /** "KIND 1 PROGRESSIVE, 2 LOSSLESS." */
    private static void kinds() {
        frame(true, 1, 8, 8, 8, 0x11);
        frame(true, 2, 8, 8, 8, 0x11);
        for (int kind : new int[] {0, 3, -1, 256, Integer.MIN_VALUE, Integer.MAX_VALUE}) {
            Due.no("kind " + kind, new ScanDesk().picture(kind, 8, 8, 8, 1, 1, 1));
        }
        Stream.begun().frame(0xC1, 8, 8, 8, 0x11).refused("kind 0 has no code", 2, 3);
    }

    /** "1 .. 40 wide and high". */
    private static void sizes() {
        for (int kind = 1; kind <= 2; kind++) {
            for (int n : new int[] {0, 1, 40, 41, 255, 256, 257, 296, 65535}) {
                frame(n == 1 || n == 40, kind, n, 8, 8, 0x11);
                frame(n == 1 || n == 40, kind, 8, n, 8, 0x11);
            }
        }
    }

    /** "1 to 3 components". */
    private static void numbersOfComponents() {
        for (int kind = 1; kind <= 2; kind++) {
            frame(false, kind, 8, 8, 8);
            frame(true, kind, 8, 8, 8, 0x11);
            frame(true, kind, 8, 8, 8, 0x11, 0x11);
            frame(true, kind, 8, 8, 8, 0x11, 0x11, 0x11);
            frame(false, kind, 8, 8, 8, 0x11, 0x11, 0x11, 0x11);
        }
        Due.no("none", new ScanDesk().picture(1, 8, 8, 8, 0, 1, 1));
        frame(false, 1, 8, 8, 8, new int[255 / 2]);
    }

    /** "each with H and V, 1 or 2 (LOSSLESS 1 both)". */
    private static void factors() {
        for (int h = 0; h < 16; h++) {
            for (int v = 0; v < 16; v++) {
                boolean can = h >= 1 && h <= 2 && v >= 1 && v <= 2;
                frame(can, 1, 8, 8, 8, 16 * h + v);
                frame(can, 1, 8, 8, 8, 0x11, 16 * h + v);
                frame(can, 1, 8, 8, 8, 0x22, 0x11, 16 * h + v);
                frame(h == 1 && v == 1, 2, 8, 8, 8, 16 * h + v);
                frame(h == 1 && v == 1, 2, 8, 8, 8, 0x11, 0x11, 16 * h + v);
            }
        }
    }

    /** "Bits: PROGRESSIVE 8 or 12 (told, else of no meaning), LOSSLESS 2 .. 16." */
    private static void bits() {
        for (int bits = 0; bits < 256; bits++) {
            frame(bits == 8 || bits == 12, 1, 8, 8, bits, 0x11);
            frame(bits >= 2 && bits <= 16, 2, 8, 8, bits, 0x11);
        }
        for (int bits : new int[] {8, 12}) {
            ScanDesk d = new ScanDesk();
            d.picture(1, 8, 8, bits, 1, 1, 1);
            Due.yes("coefficients are the same", d.put(0, 0, 0, 16383) && d.put(0, 0, 1, -16383));
            Due.is("told", d.look(3), bits);
            d.write();
            Due.is("in the SOF", d.out(6), bits);
        }
    }

    /** "A component is X wide: the width times H / HMAX, up; so high by V"; "MCUS (width / (8 HMAX), up; so by rows)". */
    private static void measures() {
        for (int[] factors : FACTORS) {
            int hMax = 1;
            int vMax = 1;
            for (int f : factors) {
                hMax = Math.max(hMax, f >> 4);
                vMax = Math.max(vMax, f & 15);
            }
            for (int i = 0; i < LENGTHS.length; i++) {
                int width = LENGTHS[i];
                int height = LENGTHS[(i * 7 + 3) % LENGTHS.length];
                ScanDesk d = Stream.begun().frame(0xC2, 8, width, height, factors).ended().taken("frame", 0);
                Due.is("MCUS in a row", d.look(5), up(width, 8 * hMax));
                Due.is("rows of MCUS", d.look(6), up(height, 8 * vMax));
                for (int c = 0; c < factors.length; c++) {
                    int h = factors[c] >> 4;
                    int v = factors[c] & 15;
                    int[] due = {h, v, up(width * h, hMax), up(height * v, vMax), h * up(width, 8 * hMax),
                        v * up(height, 8 * vMax)};
                    for (int what = 0; what < 6; what++) {
                        Due.is("component(" + c + ", " + what + ")", d.component(c, what), due[what]);
                    }
                    Due.yes("its last block", d.put(c, due[4] * due[5] - 1, 63, 1));
                    Due.no("none behind", d.put(c, due[4] * due[5], 0, 1));
                }
            }
        }
    }

    /** "X / 8 (up) by Y / 8 of them have something to show": just these are told alone. */
    private static void blocksThatShow() {
        for (int[] factors : FACTORS) {
            for (int i = 0; i < LENGTHS.length; i++) {
                int width = LENGTHS[i];
                int height = LENGTHS[(i * 5 + 2) % LENGTHS.length];
                for (int c = 0; c < factors.length; c++) {
                    ScanDesk d = Stream.begun().frame(0xC2, 8, width, height, factors).ended().taken("frame", 0);
                    int shown = up(d.component(c, 2), 8) * up(d.component(c, 3), 8);
                    Stream s = Stream.begun().frame(0xC2, 8, width, height, factors).dcTable(0)
                        .scan(0, 0, 0, 10 * (c + 1));
                    int from = s.length();
                    s.all(new Stream().data("00011 100".repeat(shown)).all());
                    Due.is("that many", s.bytes(0).readBy(d), -8);
                    Due.is("are told", d.errorAt(), from + shown);
                    d.scan(1 << c, 0, 0, 0, 0);
                    Due.is("and written", d.write(), 2 + 10 + 3 * factors.length + 311 + 10 + up(5 * shown, 8) + 2);
                }
            }
        }
    }

    /** "BLOCK b is in row b / (BLOCKS in a row)", whether or not it has something to show. */
    private static void rowsOfBlocks() {
        Stream s = Stream.begun().frame(0xC2, 8, 17, 17, 0x22, 0x11).dcTable(0).scan(0, 0, 0, 10);
        ScanDesk d = s.data("00001 1".repeat(9)).ended().taken("three by three of four by four", 1);
        Due.is("in a row", d.component(0, 4), 4);
        for (int b = 0; b < 16; b++) {
            boolean shows = b % 4 < 3 && b / 4 < 3;
            Due.is("block " + b, d.coefficient(0, b, 0), shows ? b / 4 * 3 + b % 4 + 1 : 0);
        }
        s = Stream.begun().frame(0xC2, 8, 17, 17, 0x22, 0x11).dcTable(0).scan(0, 0, 0, 10, 20);
        d = s.data("00001 1".repeat(20)).ended().taken("all of them", 1);
        int[] due = {1, 2, 5, 6, 3, 4, 7, 8, 9, 10, 13, 14, 11, 12, 15, 16};
        for (int b = 0; b < 16; b++) {
            Due.is("block " + b, d.coefficient(0, b, 0), due[b]);
        }
    }

    /** "All are 0 at first." */
    private static void allZeroAtFirst() {
        ScanDesk d = new ScanDesk();
        for (int round = 0; round < 3; round++) {
            Due.is("read", Stream.begun().frame(0xC2, 8, 40, 40, 0x22, 0x22, 0x22).ended().readBy(d), 0);
            for (int i = 0; i < 3 * 36 * 64; i++) {
                Due.is("coefficient", d.coefficient(i % 3, i / 3 % 36, i / 108), 0);
                d.put(i % 3, i / 3 % 36, i / 108, 1 + i);
            }
        }
        for (int round = 0; round < 3; round++) {
            Due.is("read", Stream.begun().frame(0xC3, 16, 40, 40, 0x11, 0x11, 0x11).ended().readBy(d), 0);
            for (int i = 0; i < 4800; i++) {
                Due.is("sample", d.sample(i % 3, i / 3 % 40, i / 120), 0);
                d.set(i % 3, i / 3 % 40, i / 120, 1 + i);
            }
        }
        Due.is("each place is its own", d.sample(2, 39, 39), 4800);
        Due.is("the first too", d.sample(0, 0, 0), 1);
    }

    /** "KNOWN of a component's k-th coefficient is the AL of the latest scan that told it, NONE ahead of any." */
    private static void knownAsLatest() {
        Stream s = Stream.oneBlock().scan(0, 0, 3, 10).data("00000");
        s.scan(1, 9, 2, 10).data("00000000").scan(0, 0, 0x32, 10).data("0").scan(4, 5, 0x21, 10).data("00000000");
        s.scan(5, 5, 0x10, 10).data("00000000").scan(10, 10, 5, 10).data("00000000").ended();
        ScanDesk d = s.taken("by and by", 6);
        int[] due = {2, 2, 2, 2, 1, 0, 2, 2, 2, 2, 5, -1};
        for (int k = 0; k < 64; k++) {
            Due.is("known " + k, d.known(0, k), k < due.length ? due[k] : -1);
        }
    }
}
