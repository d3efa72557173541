/**
 * Promise 13 by a witness of another hand: a progressive stream that libjpeg wrote (its own tables for each scan,
 * restarts, all kinds of scans) tells the coefficients that a formula tells.
 */
final class LibjpegTest {
    private static final String STREAM = ""
        + "FFD8FFE000104A46494600010100000100010000FFDB0043000101010101010101010101010101010101010101010101"
        + "0101010101010101010101010101010101010101010101010101010101010101010101010101010101FFC20011080014"
        + "001E03012200021100031100FFC40017000100030000000000000000000000000000020304FFC4001501010100000000"
        + "000000000000000000000002FFDD00040005FFDA000C03010002100310000001C7B17940009C04FF00FFC4001C100001"
        + "0305000000000000000000000000001013220203324142FFDA0008010100010502EA45C468FFD04A8C470FFFD1D44FFF"
        + "C4001C1100020105010000000000000000000000004442123441439453FFDA0008010301013F01F4861450B5DCCE3A8A"
        + "E1CCBCC5F5B4D9FFC4001C1100020202030000000000000000000000434400410342122433FFDA0008010201013F01EA"
        + "0186AAA60D555CA59ED5B2E0DE7054076073FFC400221000020200040700000000000000000000424300410333919312"
        + "2223627392E3FFDA0008010100063F0266AB9D4D56B9866CAA9962C654E367CA7FFFD021A64E6ADD6CC4F60099AB225C"
        + "EE1A64FFD1DB029E30339FFFC4001C1000020007000000000000000000000000001021415181A1F0F1FFDA0008010100"
        + "013F21373B982F4C4FFFD0993CCAEA1C5457FFD1560FFFDA000C03010002000300000010900000FFC400181100020300"
        + "00000000000000000000000000011031F0FFDA0008010301013F1046F054FDBFFFC40014110100000000000000000000"
        + "000000000020FFDA0008010201013F1010F11E1FFFC4001B100002010500000000000000000000000000102021316181"
        + "C1FFDA0008010100013F10EED454B22D3FFFD0075837B2B6FFD1DC9905FFD9";

    public static void main(String[] args) {
        ScanDesk d = new Stream().hex(STREAM).taken("libjpeg", 10);
        Due.is("size", d.look(1) * 100 + d.look(2), 3020);
        Due.is("MCUS", d.look(5) * 10 + d.look(6), 22);
        compare(d);
        for (int c = 0; c < 3; c++) {
            for (int k = 0; k < 64; k++) {
                Due.is("known " + k, d.known(c, k), 0);
            }
        }
        writeAgain(d);
        Due.end();
    }

    private static int value(int c, int b, int k) {
        int n = c * 31 + b * 17 + k * k * 7;
        return (k * 3 + b + c) % 5 == 0 && k < 30 ? n % 47 - 23 : 0;
    }

    private static void compare(ScanDesk d) {
        for (int c = 0; c < 3; c++) {
            int across = (d.component(c, 2) + 7) / 8;
            int down = (d.component(c, 3) + 7) / 8;
            for (int y = 0; y < down; y++) {
                for (int x = 0; x < across; x++) {
                    compareBlock(d, c, y * d.component(c, 4) + x);
                }
            }
        }
    }

    private static void compareBlock(ScanDesk d, int c, int block) {
        for (int k = 0; k < 64; k++) {
            Due.is("component " + c + " block " + block + " k " + k, d.coefficient(c, block, k), value(c, block, k));
        }
    }

    private static void writeAgain(ScanDesk d) {
        int[][] script = {
            {5, 0, 0, 0, 2}, {2, 0, 0, 0, 1}, {1, 1, 63, 0, 3}, {4, 1, 20, 0, 1}, {5, 0, 0, 2, 1}, {1, 1, 63, 3, 2},
            {4, 21, 63, 0, 0}, {7, 0, 0, 1, 0}, {4, 1, 20, 1, 0}, {1, 1, 9, 2, 1}, {2, 1, 63, 0, 0}, {1, 10, 63, 2, 1},
            {1, 1, 63, 1, 0},
        };
        for (int i = 0; i < script.length; i++) {
            int[] s = script[i];
            Due.is("scan " + i, d.scan(s[0], s[1], s[2], s[3], s[4]), i + 1);
        }
        d.restart(3);
        Due.yes("write", d.write() > 0);
        Due.is("take", d.take(), d.look(9));
        Due.is("read", d.read(), script.length);
        compare(d);
    }
}
