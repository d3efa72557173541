/** Promises 13 and 14: each fault of a stream, and its place. */
final class FaultTest {
    private static final int SOF = 13;

    public static void main(String[] args) {
        ends();
        beginnings();
        segments();
        frames();
        tables();
        tableOrder();
        scanHeads();
        scanOrder();
        missingTables();
        dataFaults();
        bandFaults();
        bandAgainFaults();
        losslessFaults();
        restartFaults();
        strayBytes();
        whatIsFine();
        nothingStaysOfAnother();
        Due.end();
    }

    /** One block whose DC is told, so that bands may come. */
    private static Stream withDc() {
        return Stream.oneBlock().scan(0, 0, 0, 10).data("00000");
    }

    private static Stream lossless(int width, int height) {
        return Stream.begun().frame(0xC3, 8, width, height, 0x11).dcTable(0);
    }

    private static void ends() {
        new Stream().refused("nothing", 1, 0);
        new Stream().bytes(255).refused("FF", 1, 1);
        Stream.begun().refused("FF D8", 1, 2);
        Stream.begun().bytes(255).refused("no code", 1, 3);
        Stream.begun().bytes(255, 255, 255).refused("no code behind more FF", 1, 5);
        Stream.begun().bytes(255, 0xFE).refused("no length", 1, 4);
        Stream.begun().bytes(255, 0xFE, 0).refused("half a length", 1, 5);
        Stream.oneBlock().refused("no end", 1, Stream.oneBlock().length());
        Stream data = Stream.oneBlock().scan(0, 0, 0, 10);
        data.refused("no data", 1, data.length());
        data.bytes(0x7F).refused("data end", 1, data.length());
        Stream code = Stream.oneBlock().scan(0, 0, 0, 10).bytes(0xF8);
        code.refused("bytes end within a code that there is not", 1, code.length());
        Stream half = Stream.oneBlock().scan(0, 0, 0, 10).bytes(255);
        half.refused("data end behind FF", 1, half.length());
        Stream behind = withDc();
        behind.refused("nothing behind the data", 1, behind.length());
        behind.bytes(255).refused("no code behind the data", 1, behind.length());
    }

    private static void beginnings() {
        new Stream().bytes(0).refused("no FF", 2, 0);
        new Stream().bytes(255, 255, 0xD8).refused("FF FF D8", 2, 1);
        new Stream().bytes(255, 0xD9).refused("FF D9", 2, 1);
        Stream.begun().bytes(1).refused("no FF of a segment", 2, 2);
        Stream.begun().segment(0xFE, 1, 2).bytes(3, 4).refused("no FF of the next", 2, 8);
        int[] codes = {0, 1, 0xC0, 0xC1, 0xC5, 0xCA, 0xD0, 0xD7, 0xD8, 0xDC, 0xDE, 0xDF, 0xF0, 0xFD};
        for (int code : codes) {
            Stream.begun().bytes(255, code, 0, 2).refused("code " + code, 2, 3);
            Stream.begun().bytes(255, 255, code).refused("code " + code + " behind more FF", 2, 4);
        }
        Stream other = withDc();
        other.bytes(255, 0xC0).refused("another code behind the data", 2, other.length() - 1);
    }

    private static void segments() {
        int[] codes = {0xC2, 0xC3, 0xC4, 0xDA, 0xDB, 0xDD, 0xE0, 0xEF, 0xFE};
        for (int code : codes) {
            Stream.begun().bytes(255, code, 0, 0, 0, 0).refused("length 0 of " + code, 3, 3);
            Stream.begun().bytes(255, code, 0, 1, 0, 0).refused("length 1 of " + code, 3, 3);
            Stream.begun().bytes(255, code, 0, 7, 0, 0, 0, 0).refused("beyond the bytes, " + code, 3, 3);
        }
        Stream.begun().bytes(255, 255, 255, 0xDB, 0, 1).refused("at its code, not at its FF", 3, 5);
        Stream.begun().segment(0xDD, 0).refused("short DRI", 3, 3);
        Stream.begun().segment(0xDD, 0, 0, 0).refused("long DRI", 3, 3);
        Stream.begun().segment(0xDD).refused("empty DRI", 3, 3);
        Stream.begun().segment(0xDA).refused("empty SOS", 3, 3);
        Stream.begun().segment(0xC2).refused("empty SOF", 3, 3);
    }

    private static void frames() {
        Stream.begun().segment(0xC2, 8, 0, 8, 0, 8, 1, 1, 0x11).refused("short SOF", 3, 3);
        Stream.begun().segment(0xC2, 8, 0, 8, 0, 8, 1, 1, 0x11, 0, 0).refused("long SOF", 3, 3);
        Stream.begun().segment(0xC2, 8, 0, 8, 0, 8).refused("SOF without a number", 3, 3);
        Stream.begun().segment(0xC2, 8, 0, 8, 0, 8, 0).refused("no components", 3, 3);
        Stream.begun().frame(0xC2, 8, 8, 8, 0x11, 0x11, 0x11, 0x11).refused("four components", 3, 3);
        Stream.begun().segment(0xC2, 8, 0, 8, 0, 8, 2, 5, 0x11, 0, 5, 0x11, 0).refused("a number twice", 3, 3);
        Stream.begun().segment(0xC2, 8, 0, 8, 0, 8, 3, 5, 0x11, 0, 6, 0x11, 0, 5, 0x11, 0)
            .refused("a number twice, not side by side", 3, 3);
        int[][] wrong = {
            {0xC2, 9, 8, 8, 0x11}, {0xC2, 8, 0, 8, 0x11}, {0xC2, 8, 41, 8, 0x11}, {0xC2, 8, 8, 0, 0x11},
            {0xC2, 8, 8, 41, 0x11}, {0xC2, 8, 256, 8, 0x11}, {0xC2, 8, 8, 8, 0x01}, {0xC2, 8, 8, 8, 0x10},
            {0xC2, 8, 8, 8, 0x31}, {0xC2, 8, 8, 8, 0x13}, {0xC3, 1, 8, 8, 0x11}, {0xC3, 17, 8, 8, 0x11},
            {0xC3, 8, 8, 8, 0x21}, {0xC3, 8, 8, 8, 0x12}, {0xC2, 16, 8, 8, 0x11},
        };
        for (int[] w : wrong) {
            Stream.begun().frame(w[0], w[1], w[2], w[3], w[4]).refused("a picture that can't be", 3, 3);
        }
        Stream.begun().frame(0xC2, 8, 8, 8, 0x11, 0x31).refused("the second's H", 3, 3);
        Stream.begun().frame(0xC2, 8, 8, 8, 0x11).frame(0xC3, 8, 8, 8, 0x11).refused("a SOF behind another", 3, 3 + SOF);
    }

    private static int[] table(int head, int length, int... counts) {
        int[] body = new int[length];
        body[0] = head;
        System.arraycopy(counts, 0, body, 1, counts.length);
        return body;
    }

    private static void tables() {
        Stream.begun().segment(0xC4, table(0x20, 17)).refused("class 2", 3, 3);
        Stream.begun().segment(0xC4, table(0x04, 17)).refused("number 4", 3, 3);
        Stream.begun().segment(0xC4, table(0x14, 17)).refused("AC number 4", 3, 3);
        Stream.begun().segment(0xC4, table(0, 16)).refused("counts lack", 3, 3);
        Stream.begun().segment(0xC4, table(0, 18, 0, 2)).refused("symbols lack", 3, 3);
        Stream.begun().segment(0xC4, table(0, 20, 0, 2)).refused("a byte too many", 3, 3);
        Stream.begun().segment(0xC4, table(0, 20, 3)).refused("three codes of one bit", 4, 6);
        Stream.begun().segment(0xC4, table(0, 22, 1, 1, 3)).refused("three codes where two are left", 4, 6);
        Stream.begun().segment(0xC4, table(0, 22, 2, 1)).refused("one where none is left", 4, 6);
        Stream.begun().segment(0xC4, table(0, 22, 2, 0, 0, 0, 0, 0, 0, 0, 0, 0, 0, 0, 0, 0, 0, 1))
            .refused("none left for sixteen bits", 4, 6);
        Stream.begun().segment(0xC4, table(0, 300, 0, 0, 0, 0, 0, 0, 0, 0, 200, 57)).refused("257 symbols", 4, 6);
        Stream.begun().segment(0xC4, table(0, 300, 0, 0, 0, 0, 0, 0, 0, 0, 255, 255, 255)).refused("765 symbols", 4, 6);
        Stream.begun().segment(0xC4, table(0, 17, 3)).refused("codes ahead of symbols' lacking", 4, 6);
        Stream.begun().segment(0xC4, table(0x20, 17, 3)).refused("class ahead of codes", 3, 3);
        Stream.begun().segment(0xC4, table(0, 35, 2)).refused("the rest is no table", 3, 3);
        int[] two = new int[37];
        two[1] = 2;
        two[19] = 0x13;
        two[20] = 3;
        Stream.begun().segment(0xC4, two).refused("the second table", 4, 6 + 19);
        two[19] = 0x23;
        Stream.begun().segment(0xC4, two).refused("the second table's class", 3, 3);
    }

    private static void tableOrder() {
        Stream s = Stream.begun().segment(0xC4, table(0, 273, 0, 0, 0, 0, 0, 0, 0, 255, 1))
            .segment(0xC4, table(3, 19, 2));
        s.refused("256 symbols can be", 1, s.length());
        Stream.begun().frame(0xC2, 8, 8, 8, 0x11).segment(0xC4, table(0, 17)).scan(0, 0, 0, 10).bytes(0, 0, 0)
            .refused("a table without codes", 6, 2 + 13 + 21 + 10 + 2);
    }

    private static void scanHeads() {
        Stream.begun().scan(0, 0, 0, 10).refused("ahead of a SOF", 5, 3);
        int at = Stream.oneBlock().length() + 1;
        Stream.oneBlock().segment(0xDA, 1, 10, 0, 0, 0).refused("short SOS", 3, at);
        Stream.oneBlock().segment(0xDA, 1, 10, 0, 0, 0, 0, 0).refused("long SOS", 3, at);
        Stream.oneBlock().segment(0xDA, 0, 0, 0, 0).refused("no components", 5, at);
        Stream.oneBlock().scan(0, 0, 0, 10, 10, 10, 10).refused("four components", 5, at);
        Stream.oneBlock().scan(0, 0, 0, 11).refused("no such component", 5, at);
        Stream.oneBlock().scan(0, 0, 0, 10, 10).refused("twice", 5, at);
        Stream.oneBlock().segment(0xDA, 1, 10, 0x40, 0, 0, 0).refused("DC table 4", 5, at);
        Stream.oneBlock().segment(0xDA, 1, 10, 0x04, 0, 0, 0).refused("AC table 4", 5, at);
        int[][] wrong = {{0, 1, 0}, {1, 0, 0}, {1, 64, 0}, {5, 4, 0}, {0, 0, 14}, {0, 0, 0x20}, {0, 0, 0x11},
            {0, 0, 0x10}};
        for (int[] w : wrong) {
            Stream.oneBlock().scan(w[0], w[1], w[2], 10).refused("figures", 5, at);
        }
        Stream three = Stream.begun().frame(0xC2, 8, 8, 8, 0x11, 0x11, 0x11).dcTable(0).acTable(0);
        at = three.length() + 1;
        three.scan(0, 0, 0, 20, 10).refused("not in their order", 5, at);
        three = Stream.begun().frame(0xC2, 8, 8, 8, 0x22, 0x22, 0x22).dcTable(0);
        at = three.length() + 1;
        three.scan(0, 0, 0, 10, 20, 30).refused("twelve blocks", 5, at);
        at = lossless(5, 4).length() + 1;
        int[][] figures = {{0, 0, 0}, {8, 0, 0}, {1, 1, 0}, {1, 0, 0x10}, {1, 0, 8}};
        for (int[] w : figures) {
            lossless(5, 4).scan(w[0], w[1], w[2], 10).refused("lossless figures", 5, at);
        }
        lossless(5, 4).segment(0xDD, 0, 7).scan(1, 0, 0, 10).refused("not whole rows", 5, at + 6);
        Stream rows = lossless(5, 4).segment(0xDD, 0, 5).scan(1, 0, 0, 10);
        rows.refused("whole rows", 1, rows.length());
    }

    private static void scanOrder() {
        int at = Stream.oneBlock().length() + 1;
        Stream.oneBlock().scan(1, 63, 0, 10).refused("a band ahead of its DC", 5, at);
        at = withDc().length() + 1;
        withDc().scan(0, 0, 0, 10).refused("DC twice", 5, at);
        withDc().scan(1, 5, 0x10, 10).refused("a band again ahead of a first", 5, at);
        Stream s = withDc().scan(1, 5, 1, 10).data("00000000");
        at = s.length() + 1;
        s.scan(5, 6, 1, 10).refused("a place told twice", 5, at);
        s = lossless(1, 1).scan(1, 0, 0, 10).data("00000");
        at = s.length() + 1;
        s.scan(1, 0, 0, 10).refused("a component twice", 5, at);
    }

    private static void missingTables() {
        Stream s = Stream.begun().frame(0xC2, 8, 8, 8, 0x11).acTable(0).dcTable(1);
        s.scan(0, 0, 0, 10).refused("no DC table", 5, s.length() - 9);
        s = Stream.begun().frame(0xC2, 8, 8, 8, 0x11).dcTable(0).acTable(1).scan(0, 0, 1, 10).data("00000");
        int at = s.length() + 1;
        s.scan(1, 63, 0, 10).refused("no AC table", 5, at);
        s = Stream.begun().frame(0xC3, 8, 1, 1, 0x11).acTable(0);
        s.scan(1, 0, 0, 10).refused("lossless without a table", 5, s.length() - 9);
        s = Stream.begun().frame(0xC2, 8, 8, 8, 0x11, 0x11).dcTable(0);
        at = s.length() + 1;
        s.segment(0xDA, 2, 10, 0, 20, 0x10, 0, 0, 0).refused("the second's table", 5, at);
        s = Stream.begun().frame(0xC2, 8, 8, 8, 0x11).dcTable(0).scan(0, 0, 1, 10).data("00000");
        s.segment(0xDA, 1, 10, 0x33, 0, 0, 0x10).data("1").ended().taken("DC again needs no table", 2);
        s = Stream.begun().frame(0xC2, 8, 8, 8, 0x11).dcTable(0).acTable(1).scan(0, 0, 1, 10).data("00000");
        s.segment(0xDA, 1, 10, 0x31, 1, 63, 0).data("00000000").ended().taken("a band needs no DC table", 2);
    }

    /** Data behind a head: the place counts from their first byte. */
    private static void data(String what, Stream s, String bits, int kind, int place) {
        int from = s.length();
        s.data(bits).ended().refused(what, kind, from + place);
    }

    private static void dataFaults() {
        Stream s = Stream.oneBlock().scan(0, 0, 0, 10);
        int from = s.length();
        s.ended().refused("a marker instead of data", 6, from);
        data("a marker within data", Stream.oneBlock().scan(0, 0, 0, 10), "01111 111", 6, 1);
        data("no such code", Stream.oneBlock().scan(0, 0, 0, 10), "11111 111 00000000 0", 6, 3);
        s = Stream.oneBlock().scan(0, 0, 0, 10);
        from = s.length();
        s.bytes(0xF8, 255, 0xD9).refused("a marker ahead of the sixteenth bit", 6, from + 1);
        data("size 16", Stream.oneBlock().scan(0, 0, 0, 10), "10000 000 0000", 6, 1);
        data("size 30", Stream.oneBlock().scan(0, 0, 0, 10), "11110", 6, 1);
        Stream again = Stream.begun().frame(0xC2, 8, 40, 40, 0x11).dcTable(0).scan(0, 0, 1, 10).data("00000".repeat(25));
        data("bits of DC again lack", again.scan(0, 0, 0x10, 10), "0".repeat(24), 6, 3);
        s = Stream.oneBlock().scan(0, 0, 0, 10);
        from = s.length();
        s.bytes(0x7F, 255, 0, 255, 255, 0xD9).refused("FF 00 is one byte; FF FF is a marker", 6, from + 3);
    }

    private static String ac(int symbol) {
        return Stream.low(symbol, 8);
    }

    private static void bandFaults() {
        data("a place beyond SE", withDc().scan(1, 10, 0, 10), ac(0xA3) + "111", 6, 1);
        data("its bits are not taken", withDc().scan(1, 10, 0, 10), ac(0xAF) + "1".repeat(15), 6, 1);
        data("sixteen beyond SE", withDc().scan(1, 15, 0, 10), ac(0xF0), 6, 1);
        data("behind others", withDc().scan(1, 10, 0, 10), ac(0x01) + "1" + ac(0x91) + "1" + ac(0), 6, 3);
        data("a run of two", withDc().scan(1, 63, 0, 10), ac(0x10) + "0", 6, 2);
        data("a run of many, behind its bits", withDc().scan(1, 63, 0, 10), ac(0xE0) + "0".repeat(14), 6, 3);
        data("the bits of a run lack", withDc().scan(1, 63, 0, 10), ac(0xE0) + "0", 6, 2);
        Stream two = Stream.begun().frame(0xC2, 8, 16, 8, 0x11).dcTable(0).acTable(0);
        two.scan(0, 0, 0, 10).data("00000 00000").segment(0xDD, 0, 1);
        data("a run beyond the interval", two.scan(1, 63, 0, 10), ac(0x10) + "0", 6, 2);
        two = Stream.begun().frame(0xC2, 8, 16, 8, 0x11).dcTable(0).acTable(0).scan(0, 0, 0, 10).data("00000 00000");
        Stream four = Stream.begun().frame(0xC2, 8, 32, 8, 0x11).dcTable(0).acTable(0).scan(0, 0, 0, 10);
        four.data("00000".repeat(4)).segment(0xDD, 0, 2);
        data("from the middle of an interval on", four.scan(1, 1, 0, 10), ac(0x01) + "1" + ac(0x10) + "0", 6, 3);
        Stream three = Stream.begun().frame(0xC2, 8, 24, 8, 0x11).dcTable(0).acTable(0).scan(0, 0, 0, 10);
        three.data("00000".repeat(3)).segment(0xDD, 0, 2).scan(1, 63, 0, 10).data(ac(0x10) + "0").bytes(255, 0xD0);
        data("a run beyond the end of a short interval", three, ac(0x10) + "0", 6, 2);
        data("a run from the second on", two.scan(1, 2, 0, 10), ac(0x11) + "1" + ac(0x10) + "0", 6, 3);
    }

    /** Places 1 and 3 aren't 0, the others are. */
    private static Stream withBand(int se) {
        return withDc().scan(1, se, 1, 10).data(ac(0x01) + "1" + ac(0x11) + "0" + ac(0)).scan(1, se, 0x10, 10);
    }

    private static void bandAgainFaults() {
        data("size 2", withBand(63), ac(0x02) + "11111111", 6, 1);
        data("size 15", withBand(63), ac(0x1F), 6, 1);
        data("beyond SE, behind the bits", withBand(10), ac(0x81) + "1" + "00" + "11111" + ac(0), 6, 2);
        data("a bit behind a run lacks", withBand(4), ac(0x00), 6, 1);
        data("sixteen beyond SE", withBand(17), ac(0xF0) + "00", 6, 2);
        data("a run of two", withBand(63), ac(0x10) + "0", 6, 2);
        withBand(18).data(ac(0xF0) + "10").ended().taken("sixteen end at SE", 3);
        Stream s = withBand(10);
        int from = s.length();
        s.bytes(0x81, 255, 0xD9).refused("the sign lacks", 6, from + 1);
    }

    private static void losslessFaults() {
        data("size 17", lossless(1, 1).scan(1, 0, 0, 10), "10001", 6, 1);
        data("a marker", lossless(2, 1).scan(1, 0, 0, 10), "00011 111", 6, 1);
        lossless(1, 1).scan(1, 0, 0, 10).data("10000").ended().taken("size 16 has no bits", 1);
    }

    private static Stream withIntervals() {
        Stream s = Stream.begun().frame(0xC2, 8, 24, 8, 0x11).dcTable(0).acTable(0).segment(0xDD, 0, 1);
        return s.scan(0, 0, 0, 10).data("00000");
    }

    private static void restartFaults() {
        int from = withIntervals().length();
        withIntervals().refused("bytes end at a RST", 1, from);
        withIntervals().bytes(255).refused("bytes end behind its FF", 1, from + 1);
        withIntervals().bytes(0).refused("no FF", 7, from);
        withIntervals().bytes(255, 0xD1).refused("the wrong one", 7, from);
        withIntervals().bytes(255, 255, 0xD0).refused("more FF", 7, from);
        withIntervals().bytes(255, 0).refused("FF 00", 7, from);
        withIntervals().ended().refused("the end", 7, from);
        withIntervals().bytes(255, 0xD0).data("00000").bytes(255, 0xD0).refused("the same again", 7, from + 3);
        withIntervals().bytes(255, 0xD0, 255, 0xD1).refused("no data between", 6, from + 2);
        Stream s = withIntervals().bytes(255, 0xD0).data("00000").bytes(255, 0xD1).data("00000");
        int end = s.length();
        s.bytes(255, 0xD2).refused("none behind the last", 8, end);
    }

    private static void strayBytes() {
        Stream.begun().ended().refused("no SOF", 8, 3);
        Stream.begun().bytes(255, 255, 0xD9, 7).refused("no SOF, at its code", 8, 4);
        int from = withDc().length();
        withDc().bytes(0).refused("a byte behind the data", 8, from);
        withDc().bytes(255, 0).refused("FF 00 behind the data", 8, from);
        withDc().bytes(255, 0xD0).refused("RST 0 behind the data", 8, from);
        withDc().bytes(255, 0xD7).refused("RST 7 behind the data", 8, from);
        withDc().bytes(255, 255, 255, 0xD7).refused("more FF and RST 7", 8, from);
        withDc().bytes(255, 255, 0).refused("more FF and 0", 8, from);
        withDc().bytes(255, 0xD8).refused("another FF D8", 2, from + 1);
        withDc().ended().bytes(255).refused("a byte behind the end", 8, from + 2);
        withDc().ended().ended().refused("the end twice", 8, from + 2);
        Stream.oneBlock().ended().bytes(0, 0).refused("behind an end without scans", 8, Stream.oneBlock().length() + 2);
        withDc().segment(0xFE, 1).bytes(0).refused("not right behind the data", 2, from + 5);
        withDc().segment(0xFE, 1).bytes(255, 0xD0).refused("RST not right behind the data", 2, from + 6);
    }

    private static void whatIsFine() {
        Stream.oneBlock().ended().taken("no scans", 0);
        withDc().bytes(255, 255, 255, 0xD9).taken("more FF", 1);
        Stream s = Stream.begun().segment(0xDB, 1, 2).segment(0xE0).segment(0xEF, 0, 255, 0xD9).segment(0xFE);
        s.frame(0xC2, 8, 8, 8, 0x11).segment(0xC4).dcTable(0).segment(0xDD, 255, 255).scan(0, 0, 0, 10);
        s.data("00001 0 11").segment(0xFE, 9).bytes(255).ended();
        ScanDesk d = s.taken("passed by", 1);
        Due.is("-1", d.coefficient(0, 0, 0), -1);
        Stream zeros = Stream.oneBlock().scan(0, 0, 0, 10).data("00000 000").ended();
        zeros.taken("what fills up isn't looked at", 1);
        withDc().scan(1, 16, 0, 10).data(ac(0xF0)).ended().taken("sixteen end at SE", 2);
        Stream interval = Stream.begun().frame(0xC2, 8, 16, 8, 0x11).dcTable(0).segment(0xDD, 0, 1).segment(0xDD, 0, 0);
        interval.scan(0, 0, 0, 10).data("00000 00000").ended().taken("DRI 0 ends intervals", 1);
        Stream full = Stream.begun().frame(0xC2, 8, 8, 8, 0x11).segment(0xC4, table(0, 19, 2)).scan(0, 0, 0, 10);
        full.data("1").ended().taken("all ones is a code", 1);
    }

    private static void again(String what, ScanDesk d, Stream s, int kind, int place) {
        Due.is(what + " read()", s.readBy(d), -kind);
        Due.is(what + " errorAt()", d.errorAt(), place);
    }

    /** What an earlier stream told (tables, intervals, numbers, runs, a fault) is of no meaning for the next one. */
    private static void nothingStaysOfAnother() {
        Stream three = Stream.begun().segment(0xDD, 0, 1).frame(0xC2, 8, 8, 8, 0x11, 0x11, 0x11).dcTable(0).acTable(0);
        ScanDesk d = three.ended().taken("three", 0);
        Stream bare = Stream.begun().frame(0xC2, 8, 8, 8, 0x11);
        again("no tables", d, bare.scan(0, 0, 0, 10), 5, 16);
        again("no table of the bands", d, Stream.begun().frame(0xC2, 8, 8, 8, 0x11).dcTable(0).scan(0, 0, 0, 10)
            .data("00000").scan(1, 63, 0, 10), 5, 2 + 13 + 52 + 11 + 1);
        Stream other = Stream.oneBlock();
        int at = other.length() + 1;
        again("no such component", d, other.scan(0, 0, 0, 20), 5, at);
        again("no SOF", d, Stream.begun().dcTable(0).scan(0, 0, 0, 10), 5, 2 + 52 + 1);
        Stream two = Stream.begun().frame(0xC2, 8, 16, 8, 0x11).dcTable(0).acTable(0);
        two.scan(0, 0, 0, 10).data("00010 11 00000");
        Due.is("no interval", two.ended().readBy(d), 1);
        Due.is("no place", d.errorAt(), -1);
        Due.is("3", d.coefficient(0, 1, 0), 3);
        Due.is("no second component", d.component(1, 0) + d.known(1, 0), -2);
        Due.no("nothing to put there", d.put(1, 0, 0, 1));
        Stream cut = Stream.begun().frame(0xC2, 8, 16, 8, 0x11).dcTable(0).acTable(0).scan(0, 0, 0, 10);
        cut.data("00000 00000").scan(1, 1, 1, 10).data(ac(0x01) + "1" + ac(0x01) + "1").scan(1, 1, 0x10, 10);
        cut.bytes(0x10, 0x3F, 0x10);
        int end = cut.length();
        again("stray behind a run", d, cut, 8, end - 1);
        Stream run = Stream.begun().frame(0xC2, 8, 16, 8, 0x11).dcTable(0).acTable(0).scan(0, 0, 0, 10);
        run.data("00000 00000").scan(1, 1, 1, 10).data(ac(0x01) + "1" + ac(0x01) + "1").scan(1, 1, 0x10, 10);
        run.bytes(0x10);
        end = run.length();
        again("cut within a run", d, run, 1, end);
        again("the next begins anew", d, Stream.begun().bytes(0), 2, 2);
        Stream bands = Stream.begun().frame(0xC2, 8, 16, 8, 0x11).dcTable(0).acTable(0).scan(0, 0, 0, 10);
        bands.data("00000 00000").scan(1, 1, 0, 10).data(ac(0x01) + "1" + ac(0x01) + "0");
        Due.is("bands", bands.ended().readBy(d), 2);
        Due.is("1", d.coefficient(0, 0, 1), 1);
        Due.is("-1", d.coefficient(0, 1, 1), -1);
    }
}
