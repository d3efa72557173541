/** Promises 8 to 12 in their order: each method tests the boundary cases of the sentence that it quotes. */
final class WriteEdgesTest {
    private static final int LOW = Integer.MIN_VALUE;
    private static final int HIGH = Integer.MAX_VALUE;
    private static final int HEAD = 2 + 13 + 311;

    public static void main(String[] args) {
        scanCounts();
        scanWithoutPicture();
        scanOtherComponents();
        scanFigures();
        scanTooManyBlocks();
        scanCantFollow();
        scanSixty();
        scanRefusedChangesNothing();
        clearEmpties();
        restartEdges();
        restartIsForWrite();
        writeWithoutPicture();
        writeWithoutScript();
        writeNotWholeRows();
        writeUpTo12000();
        writeDcTooLarge();
        writeBandTooLarge();
        writeTooLargeAheadOfTooLong();
        outEdges();
        Due.end();
    }

    private static ScanDesk desk(int kind, int components) {
        ScanDesk d = new ScanDesk();
        Due.yes("picture", d.picture(kind, 8, 8, 8, components, 1, 1));
        return d;
    }

    /** "A scan of the components whose bits are 1 comes to the SCRIPT: how many it has". */
    private static void scanCounts() {
        ScanDesk d = desk(1, 3);
        Due.is("the second", d.scan(2, 0, 0, 0, 0), 1);
        Due.is("the first and third", d.scan(5, 0, 0, 0, 0), 2);
        Due.is("the third", d.scan(4, 63, 63, 0, 0), 3);
        d.write();
        Due.written("the second", d, HEAD + 6, "FFDA0008010200000000" + "07");
        Due.written("the first and third", d, HEAD + 6 + 11, "FFDA000A0201000300000000" + "003F");
        Due.written("the third", d, HEAD + 6 + 11 + 14, "FFDA00080103003F3F00" + "00" + "FFD9");
    }

    /** "less why not: 1 no picture", whatever else is wrong. */
    private static void scanWithoutPicture() {
        ScanDesk d = new ScanDesk();
        Due.is("a scan that could be", d.scan(1, 0, 0, 0, 0), -1);
        Due.is("no components, no figures", d.scan(0, -1, 64, 9, 3), -1);
        Due.is("the script stays empty", d.look(7), 0);
    }

    /** "2 no components, or others", ahead of 3. */
    private static void scanOtherComponents() {
        for (int count = 1; count <= 3; count++) {
            ScanDesk d = desk(1, count);
            int[] wrong = {0, 1 << count, (1 << count) + 1, (1 << count + 1) - 1, 8, -1, LOW, LOW + 1, HIGH};
            for (int components : wrong) {
                Due.is("components " + components, d.scan(components, 0, 0, 0, 0), -2);
                Due.is("figures can't be either", d.scan(components, -1, 64, 9, 3), -2);
            }
            Due.is("all", d.scan((1 << count) - 1, 0, 0, 0, 0), 1);
        }
    }

    /** "3 SS, SE, AH, AL (2.: of their own, with so many components)", ahead of 4 and 5. */
    private static void scanFigures() {
        ScanDesk d = Stream.begun().frame(0xC2, 8, 16, 16, 0x22, 0x22, 0x22).ended().taken("12 blocks", 0);
        Due.is("ahead of 4", d.scan(7, 0, 0, 0, 14), -3);
        Due.is("a band of several, ahead of 4", d.scan(7, 1, 1, 0, 0), -3);
        Due.is("a band of two", d.scan(3, 1, 1, 0, 0), -3);
        Due.is("ahead of 5", d.scan(1, 1, 64, 0, 0), -3);
        Due.is("AL is not AH less 1, ahead of 5", d.scan(1, 0, 0, 2, 0), -3);
        Due.is("AH as AL, ahead of 5", d.scan(1, 0, 0, 2, 2), -3);
        ScanDesk lossless = desk(2, 3);
        Due.is("once", lossless.scan(7, 7, 0, 0, 7), 1);
        Due.is("lossless, ahead of 5", lossless.scan(7, 8, 0, 0, 7), -3);
        Due.is("lossless POINT, ahead of 5", lossless.scan(7, 7, 0, 0, 8), -3);
    }

    /** "4 components with H V above 10", ahead of 5. */
    private static void scanTooManyBlocks() {
        ScanDesk d = Stream.begun().frame(0xC2, 8, 16, 16, 0x22, 0x22, 0x22).ended().taken("12 blocks", 0);
        Due.is("known by nothing, ahead of 5", d.scan(7, 0, 0, 1, 0), -4);
        Due.is("eight", d.scan(3, 0, 0, 0, 0), 1);
        Due.is("twelve, two told", d.scan(7, 0, 0, 0, 0), -4);
        ScanDesk ten = Stream.begun().frame(0xC2, 8, 16, 16, 0x22, 0x12, 0x22).ended().taken("10 blocks", 0);
        Due.is("ten", ten.scan(7, 0, 0, 0, 0), 1);
        Due.is("written", ten.write(), HEAD + 6 + 14 + 7 + 2);
    }

    /** "5 it can't follow those ahead of it (2.; what is KNOWN by the SCRIPT alone)". */
    private static void scanCantFollow() {
        ScanDesk d = Stream.oneBlock().scan(0, 0, 1, 10).data("00000").ended().taken("DC known as 1", 1);
        Due.is("read, it is known", d.known(0, 0), 1);
        Due.is("not by the script", d.scan(1, 0, 0, 1, 0), -5);
        Due.is("nor its DC for bands", d.scan(1, 1, 1, 0, 0), -5);
        Due.is("so it comes first", d.scan(1, 0, 0, 0, 2), 1);
        Due.is("first again", d.scan(1, 0, 0, 0, 1), -5);
        Due.is("known as 2, not 1", d.scan(1, 0, 0, 1, 0), -5);
        Due.is("known as 2, not 3", d.scan(1, 0, 0, 3, 2), -5);
        Due.is("known as 2", d.scan(1, 0, 0, 2, 1), 2);
        Due.is("known() is by reading alone", d.known(0, 0), 1);
    }

    /** "6 there are 60", behind 5. */
    private static void scanSixty() {
        ScanDesk d = desk(1, 1);
        d.scan(1, 0, 0, 0, 0);
        for (int k = 1; k < 59; k++) {
            d.scan(1, k, k, 0, 0);
        }
        Due.is("59", d.look(7), 59);
        Due.is("the sixtieth", d.scan(1, 59, 59, 0, 3), 60);
        Due.is("the next", d.scan(1, 60, 60, 0, 0), -6);
        Due.is("the next again", d.scan(1, 59, 59, 3, 2), -6);
        Due.is("5 comes ahead", d.scan(1, 59, 59, 0, 0), -5);
        Due.is("3 comes ahead", d.scan(1, 60, 64, 0, 0), -3);
        Due.is("2 comes ahead", d.scan(2, 60, 60, 0, 0), -2);
        Due.is("sixty", d.look(7), 60);
        Due.is("sixty are written", d.write(), HEAD + 60 * 11 + 2);
        d.clear();
        Due.is("none", d.scan(1, 0, 0, 0, 0), 1);
    }

    private static void scanRefusedChangesNothing() {
        ScanDesk d = desk(1, 2);
        d.scan(3, 0, 0, 0, 2);
        d.scan(1, 1, 9, 0, 1);
        String before = State.written(d);
        int[][] wrong = {{4, 0, 0, 2, 1}, {3, 0, 1, 2, 1}, {3, 0, 0, 0, 1}, {1, 9, 10, 0, 1}, {2, 1, 9, 1, 0}};
        for (int[] w : wrong) {
            Due.yes("refused", d.scan(w[0], w[1], w[2], w[3], w[4]) < 0);
        }
        Due.yes("the script is as it was", State.written(d).equals(before));
        Due.is("places of a refused band are free", d.scan(1, 10, 10, 0, 0), 3);
        Due.is("those known stay known", d.scan(1, 1, 9, 1, 0), 4);
    }

    /** "The SCRIPT is empty." */
    private static void clearEmpties() {
        ScanDesk d = new ScanDesk();
        d.clear();
        Due.is("without a picture", d.look(7), 0);
        for (int kind = 1; kind <= 2; kind++) {
            d.picture(kind, 8, 8, 8, 2, 1, 1);
            d.restart(8);
            String blank = State.written(d);
            d.scan(3, kind - 1, 0, 0, 1);
            d.put(0, 0, 0, 3);
            d.write();
            String before = State.of(d).replaceFirst("^((\\S+ ){7})1 ", "$10 ");
            d.clear();
            State.same("but for look(7)", d, before);
            Due.yes("nothing is told, the interval stays", State.written(d).equals(blank));
            Due.is("nothing is known", d.scan(3, kind - 1, 0, 0, 0), 1);
            d.clear();
            d.clear();
            Due.is("twice", d.look(7), 0);
        }
    }

    /** "The RESTART interval for write(), 0 .. 2000: true; false for others." */
    private static void restartEdges() {
        ScanDesk d = desk(1, 1);
        for (int n : new int[] {2000, 1, 256, 1999}) {
            Due.yes("restart " + n, d.restart(n));
            Due.is("a DRI", d.write(), HEAD + 6 + 2);
            Due.is("its number", d.out(HEAD + 4) * 256 + d.out(HEAD + 5), n);
            for (int wrong : new int[] {-1, 2001, LOW, HIGH}) {
                Due.no("restart " + wrong, d.restart(wrong));
            }
            d.write();
            Due.is("it stays", d.out(HEAD + 4) * 256 + d.out(HEAD + 5), n);
        }
        Due.yes("restart 0", d.restart(0));
        Due.is("no DRI", d.write(), HEAD + 2);
        Due.yes("without a picture", new ScanDesk().restart(2000));
    }

    /** The interval belongs to write() alone: pictures and readings leave it, and reading has its own. */
    private static void restartIsForWrite() {
        ScanDesk d = new ScanDesk();
        d.restart(5);
        d.picture(1, 8, 8, 8, 1, 1, 1);
        Due.is("set ahead of the picture", d.write(), HEAD + 6 + 2);
        Stream s = Stream.begun().frame(0xC2, 8, 16, 8, 0x11).dcTable(0).segment(0xDD, 0, 1);
        s.scan(0, 0, 0, 10).data("00000").bytes(255, 0xD0).data("00000").ended();
        Due.is("read with an interval of 1", s.readBy(d), 1);
        d.write();
        Due.is("still 5", d.out(HEAD + 5), 5);
        d.restart(0);
        Due.is("read with none of its own", s.readBy(d), 1);
        Due.is("still none", d.write(), HEAD + 2);
    }

    /** "NONE: no picture". */
    private static void writeWithoutPicture() {
        ScanDesk d = new ScanDesk();
        d.restart(7);
        Due.is("no picture", d.write(), -1);
        Due.is("nothing is written", d.look(9), 0);
        Due.is("not a byte", d.out(0), -1);
    }

    /** "The picture is written by its SCRIPT": by an empty one, only what stands around the scans. */
    private static void writeWithoutScript() {
        ScanDesk d = new ScanDesk();
        d.picture(1, 40, 3, 12, 1, 2, 2);
        Due.is("progressive", d.write(), HEAD + 2);
        Due.written("its SOF", d, 0, "FFD8FFC2000B0C00030028010122" + "00FFC40135");
        Due.written("its end", d, HEAD, "FFD9");
        Due.is("taken", d.take(), HEAD + 2);
        Due.is("no scans", d.read(), 0);
        Due.is("none are counted", d.look(8), 0);
    }

    /** "-2: LOSSLESS, and the interval is not whole rows", with scans or without. */
    private static void writeNotWholeRows() {
        ScanDesk d = new ScanDesk();
        d.picture(2, 5, 3, 8, 2, 1, 1);
        d.write();
        for (int scans = 0; scans < 2; scans++) {
            String before = State.of(d);
            for (int n : new int[] {1, 4, 6, 9, 11, 1999}) {
                d.restart(n);
                Due.is("interval " + n, d.write(), -2);
            }
            State.same("what was written stays", d, before);
            for (int n : new int[] {5, 10, 15, 20, 2000, 0}) {
                d.restart(n);
                Due.yes("interval " + n, d.write() > 0);
            }
            d.scan(3, 1, 0, 0, 0);
        }
        d.picture(1, 40, 8, 8, 1, 1, 1);
        d.scan(1, 0, 0, 0, 0);
        d.restart(3);
        Due.is("progressive may be any", d.write(), HEAD + 6 + 10 + 2 + 2 + 2 + 2);
        d.picture(2, 1, 9, 8, 1, 1, 1);
        d.restart(7);
        Due.yes("one wide: any is whole rows", d.write() > 0);
    }

    /** "-3: more than 12000 .. (what was written stays)". */
    private static void writeUpTo12000() {
        ScanDesk d = thousands();
        Due.is("6001", lengthOf(d, 1, new int[][] {{1, 1, 8}, {2, 25, 6}}), 6001);
        int[][] more = {{1, 21, 0}, {22, 40, 0}, {41, 43, 7}};
        Due.is("12001", lengthOf(d, 2, more), -3);
        Due.is("6001 stay", d.look(9), 6001);
        int[][] most = {{1, 1, 9}, {2, 62, 7}};
        Due.is("12000", lengthOf(d, 2, most), 12000);
        Due.is("the last byte", d.out(11999), 0xD9);
        Due.is("none behind", d.out(12000), -1);
        Due.is("too long for the tape", d.take(), -1);
        String before = State.of(d).replaceFirst("^((\\S+ ){7})5 ", "$16 ");
        Due.is("12001", lengthOf(d, 2, more), -3);
        State.same("12000 stay", d, before);
    }

    /** Whole bands of so many components, then some of the next one. */
    private static int lengthOf(ScanDesk d, int whole, int[][] bands) {
        d.clear();
        d.scan(7, 0, 0, 0, 0);
        for (int c = 0; c < whole; c++) {
            d.scan(1 << c, 1, 63, 0, 0);
        }
        for (int[] b : bands) {
            d.scan(1 << whole, b[0], b[1], 0, b[2]);
        }
        return d.write();
    }

    /** 25 blocks of three components, whose bands are all 8192. */
    private static ScanDesk thousands() {
        int[] table = new int[18];
        table[0] = 16;
        table[1] = 1;
        table[17] = 1;
        Stream s = Stream.begun().frame(0xC2, 8, 40, 40, 0x11, 0x11, 0x11).dcTable(0).segment(0xC4, table);
        s.scan(0, 0, 0, 10, 20, 30).data("00000".repeat(75));
        for (int c = 1; c <= 3; c++) {
            s.scan(1, 63, 13, 10 * c).data("01".repeat(25 * 63));
        }
        return s.ended().taken("thousands", 4);
    }

    /** Two blocks whose DC are told by these bits. */
    private static ScanDesk dc(int al, String data) {
        Stream s = Stream.begun().frame(0xC2, 8, 16, 8, 0x11).dcTable(0).scan(0, 0, al, 10).data(data);
        return s.ended().taken("DC", 1);
    }

    private static void told(String what, ScanDesk d, int al, String bits) {
        d.clear();
        d.scan(1, 0, 0, 0, al);
        byte[] data = new Stream().data(bits).ended().all();
        Due.is(what + " can be told", d.write(), HEAD + 10 + data.length);
        for (int i = 0; i < data.length; i++) {
            Due.is(what + " byte " + i, d.out(HEAD + 10 + i), data[i] & 255);
        }
    }

    private static void notTold(String what, ScanDesk d, int al) {
        d.clear();
        d.scan(1, 0, 0, 0, al);
        String before = State.of(d);
        Due.is(what + " can't be told", d.write(), -4);
        State.same(what, d, before);
    }

    /** "-4 ..: a difference of a DC .. whose size is above 15 (what was written stays)". */
    private static void writeDcTooLarge() {
        String most = Stream.low(15, 5) + "1".repeat(15);
        String least = Stream.low(15, 5) + "0".repeat(15);
        String half = Stream.low(15, 5) + "1" + "0".repeat(14);
        String lessHalf = Stream.low(15, 5) + "0" + "1".repeat(14);
        String zero = "00000";
        ScanDesk d = dc(0, most + zero);
        Due.is("32767", d.coefficient(0, 0, 0), 32767);
        told("32767", d, 0, most + zero);
        d = dc(0, least + zero);
        Due.is("-32767", d.coefficient(0, 0, 0), -32767);
        told("-32767", d, 0, least + zero);
        d = dc(1, half + zero);
        Due.is("32768", d.coefficient(0, 0, 0), 32768);
        told("32768, halved,", d, 1, half + zero);
        notTold("32768", d, 0);
        d = dc(1, lessHalf + zero);
        Due.is("-32768", d.coefficient(0, 0, 0), -32768);
        told("-32768, halved,", d, 1, lessHalf + zero);
        notTold("-32768", d, 0);
        String low = Stream.low(14, 5) + "0".repeat(14);
        d = dc(0, low + most);
        Due.is("16384 behind -16383", d.coefficient(0, 1, 0), 16384);
        told("a difference of 32767", d, 0, low + most);
        String back = Stream.low(14, 5) + "1" + "0".repeat(13);
        d = dc(1, back + lessHalf);
        Due.is("-16384 behind 16384", d.coefficient(0, 1, 0), -16384);
        notTold("a difference of -32768", d, 0);
    }

    /** "-4 ..: .. a coefficient of a band (halved AL times) whose size is above 15 (what was written stays)". */
    private static void writeBandTooLarge() {
        for (int sign = 0; sign < 2; sign++) {
            String bits = sign == 0 ? "100000000000000" : "011111111111111";
            Stream s = Stream.oneBlock().scan(0, 0, 0, 10).data("00000").scan(1, 63, 1, 10);
            s.data(Stream.low(0x7F, 8) + bits + Stream.low(0, 8)).ended();
            ScanDesk d = s.taken("16384 twice", 2);
            Due.is("32768", d.coefficient(0, 0, 8), sign == 0 ? 32768 : -32768);
            d.scan(1, 0, 0, 0, 0);
            d.scan(1, 8, 8, 0, 1);
            int bytes = new Stream().data(Stream.low(0x0F, 8) + bits).length();
            Due.is("halved it can be told", d.write(), HEAD + 11 + 10 + bytes + 2);
            d.clear();
            d.scan(1, 0, 0, 0, 0);
            d.scan(1, 1, 7, 0, 0);
            d.scan(1, 9, 63, 0, 0);
            Due.is("a band without it can be told", d.write(), HEAD + 11 + 2 * 11 + 2);
            d.scan(1, 8, 8, 0, 0);
            String before = State.of(d);
            Due.is("it can't", d.write(), -4);
            State.same("-4", d, before);
            d.put(0, 0, 8, 16383);
            Due.yes("any that was put can", d.write() > 0);
        }
    }

    /** "-4, ahead of -3", also where the bytes are too many ahead of what can't be told. */
    private static void writeTooLargeAheadOfTooLong() {
        int[] table = {16, 1, 1, 0, 0, 0, 0, 0, 0, 0, 0, 0, 0, 0, 0, 0, 0, 1, 15};
        for (int last = 0; last < 2; last++) {
            Stream s = Stream.begun().frame(0xC2, 8, 40, 40, 0x11, 0x11, 0x11).dcTable(0).segment(0xC4, table);
            s.scan(0, 0, 0, 10, 20, 30).data("00000".repeat(75));
            for (int c = 1; c <= 3; c++) {
                String end = c == 3 && last == 1 ? "10" + "1".repeat(15) : "01";
                s.scan(1, 63, 13, 10 * c).data("01".repeat(25 * 63 - 1) + end);
            }
            ScanDesk d = s.ended().taken("long", 4);
            d.scan(7, 0, 0, 0, 0);
            for (int c = 0; c < 3; c++) {
                d.scan(1 << c, 1, 63, 0, 0);
            }
            Due.is("too long" + (last == 1 ? " and too large" : ""), d.write(), last == 0 ? -3 : -4);
            Due.is("nothing was written", d.look(9), 0);
        }
    }

    /** "Byte i of what is written (0 .. 255); NONE if there is none such." */
    private static void outEdges() {
        ScanDesk d = new ScanDesk();
        Due.is("nothing is written", d.out(0), -1);
        d.picture(2, 1, 1, 8, 1, 1, 1);
        int n = d.write();
        Due.is("the first is 255", d.out(0), 255);
        Due.is("the last", d.out(n - 1), 0xD9);
        for (int wrong : new int[] {n, -1, 11999, 12000, HIGH, LOW}) {
            Due.is("out(" + wrong + ")", d.out(wrong), -1);
        }
        d.scan(1, 1, 0, 0, 0);
        int more = d.write();
        d.clear();
        Due.is("shorter again", d.write(), n);
        Due.is("nothing is left of the longer one", d.out(more - 1), -1);
    }
}
