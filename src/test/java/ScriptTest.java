/** Promise 8: which scans come to the script, and why others do not. */
final class ScriptTest {
    public static void main(String[] args) {
        withoutPicture();
        components();
        figuresOfProgressive();
        figuresOfLossless();
        progressiveOrder();
        losslessOrder();
        tooManyBlocks();
        sixty();
        Due.end();
    }

    private static ScanDesk desk(int kind, int components, int h, int v) {
        ScanDesk d = new ScanDesk();
        Due.yes("picture", d.picture(kind, 16, 16, 8, components, h, v));
        return d;
    }

    private static void withoutPicture() {
        Due.is("no picture", new ScanDesk().scan(0, 9, 9, 9, 9), -1);
    }

    private static void components() {
        ScanDesk d = desk(1, 2, 1, 1);
        Due.is("none", d.scan(0, 0, 0, 0, 0), -2);
        Due.is("a third", d.scan(4, 0, 0, 0, 0), -2);
        Due.is("a third beside", d.scan(5, 9, 9, 9, 9), -2);
        Due.is("below 0", d.scan(-1, 0, 0, 0, 0), -2);
        Due.is("lowest", d.scan(Integer.MIN_VALUE, 0, 0, 0, 0), -2);
        Due.is("both", d.scan(3, 0, 0, 0, 0), 1);
    }

    private static void figuresOfProgressive() {
        ScanDesk d = desk(1, 2, 1, 1);
        int[][] wrong = {
            {1, -1, 0, 0, 0}, {1, 0, 1, 0, 0}, {1, 0, -1, 0, 0}, {1, 1, 0, 0, 0}, {1, 1, 64, 0, 0}, {1, 5, 4, 0, 0},
            {1, 64, 64, 0, 0}, {3, 1, 63, 0, 0}, {1, 0, 0, 0, 14}, {1, 0, 0, 0, -1}, {1, 0, 0, -1, 0},
            {1, 0, 0, 2, 0}, {1, 0, 0, 1, 1}, {1, 0, 0, 15, 14}, {1, 0, 0, Integer.MIN_VALUE, Integer.MAX_VALUE},
            {1, 0, 0, -1, -2}, {1, Integer.MIN_VALUE, 3, 0, 0}, {1, 1, Integer.MAX_VALUE, 0, 0},
        };
        for (int[] w : wrong) {
            Due.is("figures " + w[1] + " " + w[2] + " " + w[3] + " " + w[4], d.scan(w[0], w[1], w[2], w[3], w[4]), -3);
        }
        Due.is("of their own they can be", d.scan(1, 0, 0, 14, 13), -5);
        Due.is("AL 13", d.scan(1, 0, 0, 0, 13), 1);
        Due.is("one place", d.scan(1, 63, 63, 0, 13), 2);
    }

    private static void figuresOfLossless() {
        ScanDesk d = desk(2, 3, 1, 1);
        int[][] wrong = {
            {1, 0, 0, 0, 0}, {1, 8, 0, 0, 0}, {1, -1, 0, 0, 0}, {1, 1, 1, 0, 0}, {1, 1, 0, 1, 0}, {1, 1, 0, 0, 8},
            {1, 1, 0, 0, -1}, {1, 1, -1, 0, 0}, {1, 1, 0, -1, 0}, {7, 1, 0, 1, 0},
        };
        for (int[] w : wrong) {
            Due.is("figures " + w[1] + " " + w[2] + " " + w[3] + " " + w[4], d.scan(w[0], w[1], w[2], w[3], w[4]), -3);
        }
        Due.is("POINT 7 of 8 bits", d.scan(1, 7, 0, 0, 7), 1);
    }

    private static void progressiveOrder() {
        ScanDesk d = desk(1, 2, 2, 2);
        Due.is("a band ahead of its DC", d.scan(1, 1, 5, 0, 0), -5);
        Due.is("DC again ahead of DC", d.scan(1, 0, 0, 1, 0), -5);
        Due.is("DC of the second", d.scan(2, 0, 0, 0, 2), 1);
        Due.is("a band behind another's DC", d.scan(1, 1, 5, 0, 0), -5);
        Due.is("DC of both, one told", d.scan(3, 0, 0, 0, 2), -5);
        Due.is("DC of the first", d.scan(1, 0, 0, 0, 3), 2);
        Due.is("DC again of both, known otherwise", d.scan(3, 0, 0, 2, 1), -5);
        Due.is("DC again of the first", d.scan(1, 0, 0, 3, 2), 3);
        Due.is("DC again of both", d.scan(3, 0, 0, 2, 1), 4);
        Due.is("the same again", d.scan(3, 0, 0, 2, 1), -5);
        Due.is("a band", d.scan(1, 3, 9, 0, 2), 5);
        Due.is("a band over it", d.scan(1, 9, 20, 0, 2), -5);
        Due.is("a band beside it", d.scan(1, 10, 20, 0, 1), 6);
        Due.is("bands again over what isn't known alike", d.scan(1, 3, 20, 2, 1), -5);
        Due.is("a part again", d.scan(1, 5, 6, 2, 1), 7);
        Due.is("two bands again", d.scan(1, 10, 20, 1, 0), 8);
        Due.is("known as 0 can't be told better", d.scan(1, 10, 20, 1, 0), -5);
        Due.is("bands again ahead of a first", d.scan(1, 30, 31, 2, 1), -5);
    }

    private static void losslessOrder() {
        ScanDesk d = desk(2, 3, 1, 1);
        Due.is("two", d.scan(5, 4, 0, 0, 1), 1);
        Due.is("one of them again", d.scan(1, 4, 0, 0, 0), -5);
        Due.is("all", d.scan(7, 4, 0, 0, 0), -5);
        Due.is("the third", d.scan(2, 1, 0, 0, 0), 2);
    }

    /** Only a stream can tell components whose H V are more than 10 in all. */
    private static void tooManyBlocks() {
        ScanDesk d = Stream.begun().frame(0xC2, 8, 16, 16, 0x22, 0x22, 0x22).ended().taken("3 times 2 by 2", 0);
        Due.is("twelve blocks", d.scan(7, 0, 0, 0, 0), -4);
        Due.is("figures come first", d.scan(7, 0, 1, 0, 0), -3);
        Due.is("eight blocks", d.scan(6, 0, 0, 0, 0), 1);
        Due.is("blocks come ahead of what is known", d.scan(7, 0, 0, 0, 0), -4);
        ScanDesk ten = Stream.begun().frame(0xC2, 8, 16, 16, 0x22, 0x21, 0x22).ended().taken("ten", 0);
        Due.is("ten blocks", ten.scan(7, 0, 0, 0, 0), 1);
    }

    private static void sixty() {
        ScanDesk d = desk(1, 1, 1, 1);
        d.scan(1, 0, 0, 0, 0);
        for (int k = 1; k < 60; k++) {
            Due.is("scan " + k, d.scan(1, k, k, 0, 0), k + 1);
        }
        Due.is("no 61st", d.scan(1, 60, 60, 0, 0), -6);
        Due.is("one that can't follow", d.scan(1, 59, 59, 0, 0), -5);
        Due.is("sixty", d.look(7), 60);
        Due.is("all written", d.write(), 2 + 13 + 311 + 13 + 59 * 12 + 2);
        Due.is("what wasn't taken isn't known", d.scan(1, 60, 60, 0, 0), -6);
        d.clear();
        Due.is("begun again", d.scan(1, 0, 0, 0, 0), 1);
    }
}
