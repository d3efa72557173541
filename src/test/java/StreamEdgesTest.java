import java.util.Arrays;

/** Term 3, STREAMS, their FAULTS and how they are WRITTEN: each method tests the edges of the sentence that it quotes. */
final class StreamEdgesTest {
    public static void main(String[] args) {
        moreFf();
        codes();
        lengths();
        numbersOfComponents();
        tableNumbers();
        tableCounts();
        tableSymbols();
        tableAgain();
        bytesEnd();
        scanHeadLengths();
        scanHeadComponents();
        scanHeadTables();
        ownTables();
        codesNotThere();
        dcSizes();
        losslessSizes();
        bandAgainSizes();
        runsOfBlocks();
        runsOfIntervals();
        placesUpToSe();
        placesAgainUpToSe();
        takenBytes();
        restartsWhereTheyHaveToBe();
        behindTheData();
        behindTheEnd();
        intervalsTold();
        nothingIsLeft();
        writtenHeads();
        writtenFf();
        Due.end();
    }

    private static String ac(int symbol) {
        return Stream.low(symbol, 8);
    }

    private static Stream withDc() {
        return Stream.oneBlock().scan(0, 0, 0, 10).data("00000");
    }

    private static Stream copy(Stream s) {
        return new Stream().all(s.all());
    }

    /** Behind a head these data are a fault when so many of their bytes were taken, FF 00 being one. */
    private static void fault(String what, Stream head, int kind, int taken, String bits, int... more) {
        Stream s = copy(head).data(bits).bytes(more);
        byte[] all = s.all();
        int place = head.length();
        for (int i = 0; i < taken; i++) {
            place += all[place] == -1 ? 2 : 1;
        }
        s.refused(what, kind, place);
    }

    private static ScanDesk fine(String what, Stream head, int scans, String bits) {
        return copy(head).data(bits).ended().taken(what, scans);
    }

    /** "then segments, each FF, perhaps more FF, a code": not ahead of D8. */
    private static void moreFf() {
        for (int n = 0; n < 4; n++) {
            int[] more = new int[n];
            Arrays.fill(more, 255);
            Stream s = Stream.begun().bytes(more).frame(0xC2, 8, 8, 8, 0x11).bytes(more).dcTable(0).bytes(more)
                .segment(0xDD, 0, 0);
            s.bytes(more).scan(0, 0, 0, 10).data("00001 0").bytes(more).segment(0xFE).bytes(more).ended();
            Due.is("-1", s.taken(n + " more FF", 1).coefficient(0, 0, 0), -1);
        }
        new Stream().bytes(255, 255, 0xD8).refused("FF FF D8", 2, 1);
        int[] many = new int[4000];
        Arrays.fill(many, 255);
        Stream.begun().bytes(many).refused("nothing but FF", 1, 4002);
        Stream.begun().bytes(many).bytes(0xD9).refused("no SOF, at its code", 8, 4002);
        Stream.begun().frame(0xC3, 8, 1, 1, 0x11).bytes(many).bytes(0xD9).taken("4001 FF", 0);
    }

    /** "DB, E0 .. EF, FE: passed by"; "2 .. a code that is none of these (at it)". */
    private static void codes() {
        for (int code = 0; code < 255; code++) {
            Stream s = Stream.begun().bytes(255, code, 0, 2);
            boolean passed = code == 0xDB || code >= 0xE0 && code <= 0xEF || code == 0xFE || code == 0xC4;
            boolean segment = code == 0xC2 || code == 0xC3 || code == 0xDA || code == 0xDD;
            int kind = passed ? 1 : segment ? 3 : code == 0xD9 ? 8 : 2;
            s.refused("code " + code, kind, passed ? 6 : 3);
            s = withDc().bytes(255, code, 0, 2);
            int from = s.length() - 4;
            boolean stray = code == 0 || code >= 0xD0 && code <= 0xD7;
            kind = stray || code == 0xD9 ? 8 : kind;
            s.refused("code " + code + " behind the data", kind, passed ? from + 4 : stray ? from : code == 0xD9
                ? from + 2 : from + 1);
        }
    }

    /** "3 ..: its length is below 2, goes beyond the bytes, or is not just what it needs". */
    private static void lengths() {
        for (int code : new int[] {0xC2, 0xC3, 0xC4, 0xDA, 0xDB, 0xDD, 0xE0, 0xE7, 0xEF, 0xFE}) {
            for (int length = 0; length < 2; length++) {
                Stream.begun().bytes(255, code, 0, length, 9, 9, 9).refused("length " + length, 3, 3);
            }
            Stream.begun().bytes(255, code, 0, 3).refused("one beyond the bytes", 3, 3);
            Stream.begun().bytes(255, code, 0, 30).bytes(new int[27]).refused("28 with 27", 3, 3);
            Stream.begun().bytes(255, code, 1, 0).bytes(new int[253]).refused("254 with 253", 3, 3);
            Stream.begun().bytes(255, code, 255, 255).bytes(new int[5000]).refused("the most", 3, 3);
        }
        Stream.begun().segment(0xFE, new int[254]).refused("just 256", 1, 2 + 258);
        for (int n = 0; n < 8; n++) {
            Stream s = Stream.begun().segment(0xDD, new int[n]);
            s.refused("DRI of " + n, n == 2 ? 1 : 3, n == 2 ? s.length() : 3);
        }
        for (int n = 0; n < 20; n++) {
            Stream s = Stream.begun().segment(0xC2, Arrays.copyOf(new int[] {8, 0, 8, 0, 8, 1, 1, 0x11, 0}, n));
            s.refused("SOF of " + n, n == 9 ? 1 : 3, n == 9 ? s.length() : 3);
            s = Stream.begun().segment(0xC3, Arrays.copyOf(new int[] {8, 0, 8, 0, 8, 2, 1, 0x11, 0, 2, 0x11, 0}, n));
            s.refused("SOF of " + n, n == 12 ? 1 : 3, n == 12 ? s.length() : 3);
        }
    }

    /** "a SOF .. with a number told twice"; any number may be told, and their order is the SOF's. */
    private static void numbersOfComponents() {
        Stream s = Stream.begun().segment(0xC2, 8, 0, 8, 0, 8, 3, 255, 0x11, 9, 0, 0x11, 9, 128, 0x11, 9).dcTable(0);
        fine("255, 0, 128", copy(s).segment(0xDA, 3, 255, 0, 0, 0, 128, 0, 0, 0, 0), 1, "00000".repeat(3));
        copy(s).segment(0xDA, 2, 0, 0, 255, 0, 0, 0, 0).refused("0 is behind 255", 5, s.length() + 1);
        copy(s).segment(0xDA, 1, 1, 0, 0, 0, 0).refused("the place is no number", 5, s.length() + 1);
        int[][] twice = {{7, 7, 8}, {7, 8, 7}, {8, 7, 7}, {7, 7, 7}, {0, 0, 1}};
        for (int[] t : twice) {
            Stream.begun().segment(0xC2, 8, 0, 8, 0, 8, 3, t[0], 0x11, 0, t[1], 0x11, 0, t[2], 0x11, 0)
                .refused("twice", 3, 3);
        }
        Stream first = Stream.begun().frame(0xC2, 8, 8, 8, 0x11);
        copy(first).frame(0xC2, 8, 8, 8, 0x11).refused("a SOF behind another", 3, first.length() + 1);
        Stream late = withDc();
        copy(late).frame(0xC2, 8, 8, 8, 0x11).refused("also behind a scan", 3, late.length() + 1);
    }

    private static int[] table(int head, int length, int... counts) {
        int[] body = new int[length];
        body[0] = head;
        System.arraycopy(counts, 0, body, 1, counts.length);
        return body;
    }

    /** "16 class (0 DC, 1 AC) + number 0 .. 3"; "3 ..: a table's class and number that can't be". */
    private static void tableNumbers() {
        for (int head = 0; head < 256; head++) {
            boolean can = (head >> 4) < 2 && (head & 15) < 4;
            Stream s = Stream.begun().segment(0xC4, table(head, 18, 1));
            s.refused("table " + head, can ? 1 : 3, can ? s.length() : 3);
            s = Stream.begun().segment(0xC4, table(head, 18, 3));
            s.refused("ahead of its codes " + head, can ? 4 : 3, can ? 6 : 3);
        }
        for (int n = 1; n < 17; n++) {
            Stream.begun().segment(0xC4, Arrays.copyOf(table(0, 17, 3), n)).bytes(255, 255, 255)
                .refused("counts lack", 3, 3);
        }
    }

    /** "4 a table with more than 256 symbols or more codes than its lengths have (at its first byte ..)". */
    private static void tableCounts() {
        for (int size = 1; size <= 7; size++) {
            int[] counts = new int[size];
            counts[size - 1] = 1 << size;
            Stream s = Stream.begun().segment(0xC4, table(0, 17 + (1 << size), counts));
            s.refused("all of " + size + " bits", 1, s.length());
            counts[size - 1]++;
            Stream.begun().segment(0xC4, table(0, 300, counts)).refused("one more of " + size + " bits", 4, 6);
            int[] longer = Arrays.copyOf(counts, 16);
            longer[size - 1]--;
            longer[15] = 1;
            Stream.begun().segment(0xC4, table(0, 300, longer)).refused("one of 16 bits behind them", 4, 6);
        }
        int[] stairs = {1, 1, 1, 1, 1, 1, 1, 1, 1, 1, 1, 1, 1, 1, 1, 2};
        Stream s = Stream.begun().segment(0xC4, table(0x13, 17 + 17, stairs));
        s.refused("every length, all codes", 1, s.length());
        stairs[15] = 3;
        Stream.begun().segment(0xC4, table(0x13, 17 + 18, stairs)).refused("one more of 16 bits", 4, 6);
        s = Stream.begun().segment(0xC4, table(0x13, 17 + 256, 0, 0, 0, 0, 0, 0, 0, 255, 1));
        s.refused("256 symbols", 1, s.length());
        Stream.begun().segment(0xC4, table(0x13, 17 + 257, 0, 0, 0, 0, 0, 0, 0, 255, 2)).refused("257 symbols", 4, 6);
        s = Stream.begun().segment(0xC4, table(0, 17 + 256, 0, 0, 0, 0, 0, 0, 0, 0, 0, 0, 0, 0, 0, 0, 1, 255));
        s.refused("256 of 15 and 16 bits", 1, s.length());
        Stream.begun().segment(0xC4, table(0, 17 + 257, 0, 0, 0, 0, 0, 0, 0, 0, 0, 0, 0, 0, 0, 0, 2, 255))
            .refused("257 of them", 4, 6);
        Stream.begun().segment(0xC4, table(0, 17, 0, 0, 0, 0, 0, 0, 0, 255, 2))
            .refused("ahead of symbols' lacking", 4, 6);
        Stream.begun().segment(0xC4, table(0, 17)).refused("no codes at all", 1, 2 + 4 + 17);
    }

    /** "of a DHT each table's bytes; a DHT without tables can be"; faults of the second table at its own first byte. */
    private static void tableSymbols() {
        Stream.begun().segment(0xC4).refused("without tables", 1, 6);
        for (int n = 17; n < 25; n++) {
            Stream s = Stream.begun().segment(0xC4, table(0, n, 0, 3));
            s.refused("three symbols in " + (n - 17), n == 20 ? 1 : 3, n == 20 ? s.length() : 3);
        }
        int[] two = Arrays.copyOf(table(0, 18, 1), 18 + 20);
        two[18] = 0x11;
        two[20] = 3;
        Stream s = Stream.begun().segment(0xC4, two);
        s.refused("two tables", 1, s.length());
        Stream.begun().segment(0xC4, Arrays.copyOf(two, 37)).refused("the second lacks a symbol", 3, 3);
        Stream.begun().segment(0xC4, Arrays.copyOf(two, 18 + 16)).refused("the second lacks a count", 3, 3);
        Stream.begun().segment(0xC4, Arrays.copyOf(two, 39)).refused("a byte behind them", 3, 3);
        two[20] = 5;
        Stream.begun().segment(0xC4, two).refused("the second has too many", 4, 6 + 18);
        two[18] = 0x14;
        Stream.begun().segment(0xC4, two).refused("ahead of which is its number", 3, 3);
        int[] most = table(0, 17 + 256, 0, 0, 0, 0, 0, 0, 0, 255, 1);
        most[17 + 254] = 3;
        most[17 + 255] = 2;
        Stream last = Stream.begun().frame(0xC2, 8, 16, 8, 0x11).segment(0xC4, most).scan(0, 0, 0, 10);
        ScanDesk d = fine("the 255th and 256th symbol", last, 1, "11111110 111" + "11111111 0 11");
        Due.is("7 and 10", d.coefficient(0, 0, 0) * 100 + d.coefficient(0, 1, 0), 710);
    }

    /** "A table told again is the latest", the others stay. */
    private static void tableAgain() {
        Stream s = Stream.begun().frame(0xC2, 8, 8, 8, 0x11, 0x11, 0x11).dcTable(0).dcTable(1).acTable(0);
        s.scan(0, 0, 0, 10).data("00010 11").segment(0xC4, table(0, 18, 1)).scan(0, 0, 0, 20).data("0");
        s.segment(0xDA, 1, 30, 0x10, 0, 0, 0).data("00010 11").ended();
        ScanDesk d = s.taken("told again", 3);
        Due.is("3, 0, 3", d.coefficient(0, 0, 0) * 100 + d.coefficient(1, 0, 0) * 10 + d.coefficient(2, 0, 0), 303);
        int[] twice = new int[36];
        twice[1] = 1;
        twice[17] = 4;
        twice[19] = 1;
        twice[35] = 2;
        Stream in = Stream.begun().frame(0xC2, 8, 8, 8, 0x11).segment(0xC4, twice).scan(0, 0, 0, 10);
        Due.is("twice in one segment", fine("twice", in, 1, "0 10").coefficient(0, 0, 0), 2);
    }

    /** "1 the bytes end where one has to come (how many there are)": a stream cut behind each of its bytes. */
    private static void bytesEnd() {
        Stream s = Stream.begun().segment(0xE0, 1, 2).frame(0xC2, 8, 16, 8, 0x11).dcTable(0).acTable(0)
            .segment(0xDD, 0, 1).bytes(255);
        s.scan(0, 0, 0, 10).data("01111 111").bytes(0).data("00000").bytes(255, 0xD0).data("00000");
        byte[] all = s.bytes(255).ended().all();
        int[] starts = {2, 8, 21, 73, 349, 356, 999};
        int[] lengths = {6, 13, 52, 276, 6, 10, 0};
        int next = 0;
        for (int n = 0; n < all.length; n++) {
            while (n >= starts[next] + lengths[next] && lengths[next] > 0) {
                next++;
            }
            boolean within = n >= starts[next] + 4;
            new Stream().all(Arrays.copyOf(all, n)).refused("cut at " + n, within ? 3 : 1, within ? starts[next] + 1 : n);
        }
        new Stream().all(all).taken("not cut", 1);
    }

    /** A SOS whose length is not what its number of components needs is a segment that can't be. */
    private static void scanHeadLengths() {
        Stream s = Stream.oneBlock();
        for (int parts = 0; parts < 6; parts++) {
            for (int n = 0; n < 16; n++) {
                int[] body = new int[n];
                if (n > 0) {
                    body[0] = parts;
                }
                boolean just = n > 0 && n == 4 + 2 * parts;
                copy(s).segment(0xDA, body).refused("SOS of " + parts + " in " + n, just ? 5 : 3, s.length() + 1);
                Stream.begun().segment(0xDA, body).refused("ahead of a SOF", just ? 5 : 3, 3);
            }
        }
        copy(s).segment(0xDA, table(255, 4 + 510)).refused("255 components", 5, s.length() + 1);
    }

    /** "5 ..: ahead of a SOF; components that there are not, not in their order, twice; a number of them 0 or above 3". */
    private static void scanHeadComponents() {
        Stream s = Stream.begun().frame(0xC2, 8, 8, 8, 0x11, 0x11, 0x11).dcTable(0);
        int at = s.length() + 1;
        int[][] can = {{10}, {20}, {30}, {10, 20}, {10, 30}, {20, 30}, {10, 20, 30}};
        for (int[] c : can) {
            Stream told = copy(s).scan(0, 0, 0, c);
            told.refused("lacks only its data", 1, told.length());
        }
        int[][] cant = {{}, {11}, {0}, {1}, {40}, {10, 10}, {20, 10}, {30, 20}, {30, 10}, {10, 30, 20}, {20, 10, 30},
            {30, 20, 10},
            {10, 20, 20}, {10, 10, 20}, {10, 20, 40}, {40, 10}, {10, 20, 30, 40}, {10, 20, 30, 30}};
        for (int[] c : cant) {
            copy(s).scan(0, 0, 0, c).refused("components " + Arrays.toString(c), 5, at);
        }
        Stream.begun().dcTable(0).scan(0, 0, 0, 10).refused("ahead of a SOF", 5, 2 + 52 + 1);
    }

    /** "a table's number above 3; .. a table that it needs (DC: all but DC again and bands; AC: bands) and that wasn't told". */
    private static void scanHeadTables() {
        for (int chosen = 0; chosen < 256; chosen++) {
            Stream s = Stream.begun().frame(0xC2, 8, 8, 8, 0x11).dcTable(2).acTable(1)
                .segment(0xDA, 1, 10, chosen, 0, 0, 1);
            boolean can = chosen >> 4 == 2 && (chosen & 15) < 4;
            s.refused("DC by " + chosen, can ? 1 : 5, can ? s.length() : s.length() - 9);
            s = Stream.begun().frame(0xC3, 8, 8, 8, 0x11).dcTable(2).acTable(1).segment(0xDA, 1, 10, chosen, 1, 0, 0);
            s.refused("lossless by " + chosen, can ? 1 : 5, can ? s.length() : s.length() - 9);
            s = Stream.begun().frame(0xC2, 8, 8, 8, 0x11).dcTable(2).acTable(1).segment(0xDA, 1, 10, 0x20, 0, 0, 1)
                .data("00000");
            Stream again = copy(s).segment(0xDA, 1, 10, chosen, 0, 0, 0x10);
            can = chosen >> 4 < 4 && (chosen & 15) < 4;
            again.refused("DC again by " + chosen, can ? 1 : 5, can ? again.length() : again.length() - 9);
            Stream band = copy(s).segment(0xDA, 1, 10, chosen, 1, 1, 1);
            can = chosen >> 4 < 4 && (chosen & 15) == 1;
            band.refused("a band by " + chosen, can ? 1 : 5, can ? band.length() : band.length() - 9);
            band = copy(s).scan(0, 0, 0x10, 10).data("0").segment(0xDA, 1, 10, 1, 1, 1, 1).data(ac(0));
            band.segment(0xDA, 1, 10, chosen, 1, 1, 0x10);
            band.refused("a band again by " + chosen, can ? 1 : 5, can ? band.length() : band.length() - 9);
        }
    }

    /** Each component is read by the tables that it names itself, alone too. */
    private static void ownTables() {
        int[] other = {3, 1, 0, 0, 0, 0, 0, 0, 0, 0, 0, 0, 0, 0, 0, 0, 0, 2, 0x13, 1, 0, 0, 0, 0, 0, 0, 0, 0, 0, 0, 0,
            0, 0, 0, 0, 3};
        Stream s = Stream.begun().frame(0xC2, 8, 8, 8, 0x11, 0x11).dcTable(0).acTable(0).segment(0xC4, other);
        s.segment(0xDA, 2, 10, 0, 20, 0x30, 0, 0, 0).data("00010 11" + "0 10").scan(1, 1, 0, 10).data(ac(2) + "11");
        s.segment(0xDA, 1, 20, 0x03, 1, 1, 0).data("0 101").ended();
        ScanDesk d = s.taken("bands by their own", 3);
        Due.is("3 and 2", d.coefficient(0, 0, 0) * 10 + d.coefficient(1, 0, 0), 32);
        Due.is("3 and 5", d.coefficient(0, 0, 1) * 10 + d.coefficient(1, 0, 1), 35);
        s = Stream.begun().frame(0xC2, 8, 8, 8, 0x11, 0x11).dcTable(0).segment(0xC4, other).scan(0, 0, 0, 10)
            .data("00010 11");
        s.segment(0xDA, 1, 20, 0x30, 0, 0, 0).data("0 10").ended();
        Due.is("the DC alone", s.taken("DC by its own", 2).coefficient(1, 0, 0), 2);
        s = Stream.begun().frame(0xC3, 8, 1, 1, 0x11, 0x11).dcTable(0).segment(0xC4, other).scan(1, 0, 0, 10)
            .data("00000");
        s.segment(0xDA, 1, 20, 0x30, 1, 0, 0).data("0 10").ended();
        Due.is("a sample alone", s.taken("a sample by its own", 2).sample(1, 0, 0), 130);
    }

    /** "6 ..: a marker where a bit has to come; a code that the table has not (when 16 bits were read)". */
    private static void codesNotThere() {
        Stream s = Stream.begun().frame(0xC2, 8, 8, 8, 0x11).segment(0xC4, table(0, 18, 1)).scan(0, 0, 0, 10);
        fault("sixteen bits", s, 6, 2, "1".repeat(16));
        fault("sixteen bits, then a marker", s, 6, 2, "1".repeat(16), 255, 0xD9);
        fault("eight bits, then the end", s, 1, 1, "1".repeat(8));
        fault("eight bits, then a marker", s, 6, 1, "1".repeat(8), 255, 0xD9);
        fault("sixteen bits and more", s, 6, 2, "10000000 11111111 11111111");
        Stream two = Stream.begun().frame(0xC2, 8, 16, 8, 0x11).segment(0xC4, table(0, 18, 1)).scan(0, 0, 0, 10);
        fault("fifteen bits, then a marker", two, 6, 2, "0" + "1000000 11111111", 255, 0xD9);
        fault("fifteen bits, then the end", two, 1, 2, "0" + "1000000 11111111");
        fault("a bit of the third byte", two, 6, 3, "0" + "1000000 11111111 10000000");
        int[] longest = table(0, 19, 0, 0, 0, 0, 0, 0, 0, 0, 0, 0, 0, 0, 0, 0, 0, 2);
        Stream sixteen = Stream.begun().frame(0xC2, 8, 8, 8, 0x11).segment(0xC4, longest).scan(0, 0, 0, 10);
        fine("the last code of 16 bits", sixteen, 1, "0".repeat(15) + "1");
        fault("the next one", sixteen, 6, 2, "0".repeat(14) + "10");
        copy(s).bytes(255, 0).refused("FF 00 is a byte", 1, s.length() + 2);
        copy(s).bytes(255, 1).refused("FF 01 is a marker", 6, s.length());
        copy(s).bytes(255, 255, 0).refused("FF FF is a marker", 6, s.length());
        copy(s).bytes(255, 0xD0).refused("RST is a marker", 6, s.length());
        copy(s).bytes(255).refused("what is behind FF lacks", 1, s.length() + 1);
        copy(s).refused("all lacks", 1, s.length());
    }

    /** "of a DC a size above 15". */
    private static void dcSizes() {
        Stream s = Stream.oneBlock().scan(0, 0, 0, 10);
        for (int size = 0; size < 31; size++) {
            String bits = Stream.low(size, 5) + "1" + "0".repeat(30);
            if (size > 15) {
                fault("size " + size, s, 6, 1, bits);
            } else {
                int value = size == 0 ? 0 : 1 << size - 1;
                ScanDesk d = fine("size " + size, s, 1, bits.substring(0, 5 + size));
                Due.is("size " + size, d.coefficient(0, 0, 0), value);
            }
        }
        int[] high = table(0, 20, 0, 3);
        high[17] = 16;
        high[18] = 255;
        high[19] = 128;
        Stream odd = Stream.begun().frame(0xC2, 8, 8, 8, 0x11).segment(0xC4, high).scan(0, 0, 0, 10);
        for (String code : new String[] {"00", "01", "10"}) {
            fault("16, 255, 128", odd, 6, 1, code);
        }
    }

    /** "of LOSSLESS above 16". */
    private static void losslessSizes() {
        Stream s = Stream.begun().frame(0xC3, 16, 2, 1, 0x11).dcTable(0).scan(1, 0, 0, 10);
        for (int size = 0; size < 31; size++) {
            String bits = Stream.low(size, 5) + "1" + "0".repeat(30);
            if (size > 16) {
                fault("size " + size, s, 6, 1, bits);
            } else {
                int value = size == 0 ? 0 : size == 16 ? 32768 : 1 << size - 1;
                ScanDesk d = fine("size " + size, s, 1, bits.substring(0, 5 + size % 16) + "00001 1");
                Due.is("size " + size, d.sample(0, 0, 0), 32768 + value & 65535);
                Due.is("the next", d.sample(0, 1, 0), 32768 + value + 1 & 65535);
            }
        }
    }

    /** Places 1 and 3 aren't 0, the others up to SE are; then all of them again. */
    private static Stream withBand(int se) {
        return withDc().scan(1, se, 1, 10).data(ac(0x01) + "1" + ac(0x11) + "0" + ac(0)).scan(1, se, 0x10, 10);
    }

    /** "of a band (AH above 0) a size above 1". */
    private static void bandAgainSizes() {
        for (int run = 0; run < 16; run++) {
            for (int size = 2; size < 16 && 16 * run + size < 255; size++) {
                fault("run " + run + " size " + size, withBand(63), 6, 1, ac(16 * run + size) + "1".repeat(20));
            }
            if (run < 15) {
                ScanDesk d = fine("run " + run, withBand(63), 3, ac(16 * run + 1) + "1" + "1" + (run > 0 ? "1" : "")
                    + ac(0)
                    + (run > 0 ? "" : "0"));
                Due.is("behind " + run + " zeros", d.coefficient(0, 0, run == 0 ? 2 : run + 3), 1);
            }
        }
        ScanDesk d = fine("run 15", withBand(63), 3, ac(0xF1) + "0" + "11" + ac(0));
        Due.is("behind 15 zeros", d.coefficient(0, 0, 18), -1);
    }

    private static Stream blocks(int n, int interval) {
        Stream s = Stream.begun().frame(0xC2, 8, 8 * n, 8, 0x11).dcTable(0).acTable(0).scan(0, 0, 0, 10)
            .data("00000".repeat(n));
        return s.segment(0xDD, 0, interval);
    }

    /** "a run, behind its bits, of more BLOCKS than there are yet (this one counted ..)". */
    private static void runsOfBlocks() {
        String[] runs = {"", ac(0), ac(0x10) + "0", ac(0x10) + "1", ac(0x20) + "00", ac(0x20) + "01", ac(0x20) + "10"};
        for (int n = 1; n <= 5; n++) {
            Stream first = blocks(n, 0).scan(1, 1, 1, 10);
            Stream again = copy(first).data((ac(0x01) + "1").repeat(n)).scan(1, 1, 0x10, 10);
            for (int run = 1; run <= 6; run++) {
                for (int ahead = 0; ahead < n; ahead++) {
                    String bits = (ac(0x01) + "1").repeat(ahead) + runs[run];
                    String bitsAgain = (ac(0) + "0").repeat(ahead) + runs[run];
                    if (run > n - ahead) {
                        fault("a run of " + run, first, 6, (bits.length() + 7) / 8, bits);
                        fault("again a run of " + run, again, 6, (bitsAgain.length() + 7) / 8, bitsAgain);
                    } else {
                        int rest = n - ahead - run;
                        fine("a run of " + run, first, 2, bits + ac(0).repeat(rest));
                        fine("again a run of " + run, again, 3, bitsAgain + "0".repeat(run) + (ac(0) + "0").repeat(rest));
                    }
                }
            }
        }
        for (int size = 5; size < 15; size++) {
            fault("of " + (1 << size), blocks(5, 0).scan(1, 63, 0, 10), 6, (8 + size + 7) / 8, ac(16 * size)
                + "0".repeat(size));
            fault("again of " + (1 << size), withBand(63), 6, (8 + size + 7) / 8, ac(16 * size) + "0".repeat(size));
            int bytes = size > 8 ? 2 : 1;
            fault("its bits lack", withBand(63), 6, bytes, ac(16 * size) + "0".repeat(8 * bytes - 8), 255, 0xD9);
        }
    }

    /** "(.. of the interval, too)". */
    private static void runsOfIntervals() {
        fault("two of an interval of one", blocks(4, 1).scan(1, 1, 0, 10), 6, 2, ac(0x10) + "0");
        fault("three of two", blocks(4, 2).scan(1, 1, 0, 10), 6, 2, ac(0x10) + "1");
        fault("two from the second of two on", blocks(4, 2).scan(1, 1, 0, 10), 6, 3, ac(0x01) + "1" + ac(0x10) + "0");
        Stream s = blocks(5, 2).scan(1, 1, 0, 10).data(ac(0x10) + "0").bytes(255, 0xD0).data(ac(0x10) + "0")
            .bytes(255, 0xD1);
        fault("two of the one left", s, 6, 2, ac(0x10) + "0");
        fine("one of the one left", s, 2, ac(0));
        fine("an interval longer than all", blocks(5, 9).scan(1, 1, 0, 10), 2, ac(0x20) + "01");
        fault("all and one more", blocks(5, 9).scan(1, 1, 0, 10), 6, 2, ac(0x20) + "10");
    }

    /** "a place beyond SE (sixteen zeros may end at SE ..)". */
    private static void placesUpToSe() {
        for (int se = 1; se <= 20; se++) {
            for (int zeros = 0; zeros < 15; zeros++) {
                Stream s = withDc().scan(1, se, 0, 10);
                String end = 1 + zeros == se ? "" : ac(0);
                if (1 + zeros > se) {
                    fault(zeros + " zeros up to " + se, s, 6, 1, ac(16 * zeros + 9) + "1".repeat(9));
                } else {
                    ScanDesk d = fine(zeros + " zeros up to " + se, s, 2, ac(16 * zeros + 1) + "1" + end);
                    Due.is("1", d.coefficient(0, 0, 1 + zeros), 1);
                }
            }
            Stream s = withDc().scan(1, se, 0, 10);
            if (se < 16) {
                fault("sixteen up to " + se, s, 6, 1, ac(0xF0) + ac(0));
            } else {
                fine("sixteen up to " + se, s, 2, ac(0xF0) + (se == 16 ? "" : ac(0)));
            }
        }
        fine("63", withDc().scan(63, 63, 0, 10), 2, ac(0x01) + "1");
        fault("64", withDc().scan(63, 63, 0, 10), 6, 1, ac(0x11) + "1");
        fine("four times sixteen less one", withDc().scan(1, 63, 0, 10), 2, ac(0xF0).repeat(3) + ac(0xE1) + "1");
        fault("four times sixteen", withDc().scan(1, 63, 0, 10), 6, 4, ac(0xF0).repeat(4));
    }

    /** "(.. AH above 0: behind the bits of those that aren't 0)". */
    private static void placesAgainUpToSe() {
        for (int se = 4; se <= 22; se++) {
            for (int zeros = 0; zeros <= 15; zeros++) {
                boolean fits = zeros < se - 2;
                String bits = ac(16 * zeros + 1) + "1" + (zeros > 0 ? "11" : "1");
                if (!fits) {
                    fault(zeros + " zeros up to " + se, withBand(se), 6, 2, bits);
                    fault("a bit lacks", withBand(se), 6, 2, bits + "11111", 255, 0xD9);
                    continue;
                }
                String end = zeros == se - 3 ? "" : ac(0) + (zeros > 0 ? "" : "1");
                ScanDesk d = fine(zeros + " zeros up to " + se, withBand(se), 3, bits + end);
                Due.is("1", d.coefficient(0, 0, zeros == 0 ? 2 : zeros + 3), 1);
            }
            if (se < 18) {
                fault("sixteen up to " + se, withBand(se), 6, 2, ac(0xF0) + "11");
            } else {
                fine("sixteen up to " + se, withBand(se), 3, ac(0xF0) + "11" + (se == 18 ? "" : ac(0)));
            }
        }
        Stream full = withDc().scan(1, 1, 1, 10).data(ac(0x01) + "1").scan(1, 1, 0x10, 10);
        fault("no zero at all", full, 6, 2, ac(0x01) + "1" + "1");
        fine("its bit alone", full, 3, ac(0) + "1");
        fault("its bit lacks", full, 6, 1, ac(0), 255, 0xD9);
    }

    /** "at the next byte that isn't taken yet (a byte is taken when its first bit is needed)". */
    private static void takenBytes() {
        Stream two = Stream.begun().frame(0xC2, 8, 16, 8, 0x11).dcTable(0).scan(0, 0, 0, 10);
        fault("the first byte is taken whole", two, 6, 1, "00011 101", 255, 0xD9);
        fault("the second is taken", two, 6, 2, "00011 101" + "10000 000");
        fault("it is begun by the code", two, 6, 2, "00010 10 1" + "0000 0000");
        fault("FF 00 is one byte", two, 6, 3, "00011 111" + "11111 111" + "00000000", 255, 0xD9);
        Stream band = withDc().scan(1, 3, 0, 10);
        fault("a code that fills a byte", band, 6, 1, ac(0x31) + "10000000");
        fault("with nothing behind", band, 6, 1, ac(0x31));
        fault("behind a bit", band, 6, 3, ac(0x01) + "1" + ac(0x21) + "1000000");
        fault("the sign's byte is taken", withBand(4), 6, 2, ac(0x21) + "1" + "11" + "00000");
        fault("the bits fill a byte", withBand(4), 6, 2, ac(0x21) + "1" + "11" + "00000" + "00000000");
    }

    /** "7 no FF, RST m right where they have to be (at the byte where the FF has to be)". */
    private static void restartsWhereTheyHaveToBe() {
        Stream s = blocks(3, 1).scan(1, 1, 0, 10).data(ac(0));
        int at = s.length();
        for (int value = 0; value < 255; value++) {
            copy(s).bytes(value, 255, 0xD0).refused("byte " + value, 7, at);
            if (value != 0xD0) {
                copy(s).bytes(255, value).refused("FF and " + value, 7, at);
            }
        }
        copy(s).bytes(255, 255, 0xD0).refused("more FF", 7, at);
        copy(s).refused("no byte", 1, at);
        copy(s).bytes(255).refused("no code", 1, at + 1);
        Stream next = copy(s).bytes(255, 0xD0).data(ac(0));
        copy(next).bytes(255, 0xD0).refused("RST 0 again", 7, next.length());
        copy(next).bytes(255, 0xD2).refused("RST 2 too early", 7, next.length());
        copy(next).bytes(255, 0xD1).data(ac(0)).ended().taken("RST 1", 2);
        Stream full = Stream.begun().frame(0xC2, 8, 16, 8, 0x11).dcTable(0).segment(0xDD, 0, 1).scan(0, 0, 0, 10);
        full.data("01000 11111111").bytes(255, 0xD0).data("00000").ended();
        Due.is("behind FF 00", full.taken("behind FF 00", 1).coefficient(0, 0, 0), 255);
    }

    /** "8 bytes behind the data that are no segment's FF and code other than 0 and RST". */
    private static void behindTheData() {
        int at = withDc().length();
        for (int value = 0; value < 255; value++) {
            withDc().bytes(value).refused("byte " + value, 8, at);
            withDc().bytes(value, 255, 0xD9).refused("byte " + value, 8, at);
        }
        for (int m = 0; m < 8; m++) {
            withDc().bytes(255, 0xD0 + m).refused("RST " + m, 8, at);
            withDc().bytes(255, 255, 0xD0 + m).refused("FF and RST " + m, 8, at);
        }
        withDc().bytes(255, 0).refused("FF 00", 8, at);
        withDc().refused("no byte", 1, at);
        withDc().bytes(255).refused("FF alone", 1, at + 1);
        withDc().bytes(255, 255).refused("FF FF alone", 1, at + 2);
        withDc().segment(0xFE).bytes(0).refused("a byte behind another segment", 2, at + 4);
        withDc().segment(0xFE).bytes(255, 0xD0).refused("RST behind another segment", 2, at + 5);
        withDc().segment(0xFE).bytes(255, 0).refused("FF 00 behind another segment", 2, at + 5);
        Stream.oneBlock().bytes(255, 0xD0).refused("RST ahead of any data", 2, Stream.oneBlock().length() + 1);
    }

    /** "behind FF D9 (at the first such byte); FF D9 ahead of any SOF (at its code)." */
    private static void behindTheEnd() {
        int end = withDc().ended().length();
        for (int value = 0; value < 256; value++) {
            withDc().ended().bytes(value).refused("byte " + value, 8, end);
        }
        withDc().ended().bytes(0, 0, 0).refused("the first of three", 8, end);
        withDc().ended().ended().refused("FF D9 twice", 8, end);
        Stream.begun().frame(0xC3, 8, 1, 1, 0x11).ended().bytes(1).refused("behind no scans", 8, 2 + 13 + 2);
        Stream.begun().ended().refused("ahead of any SOF", 8, 3);
        Stream.begun().ended().bytes(1, 2).refused("also with bytes behind", 8, 3);
        Stream.begun().dcTable(0).segment(0xDD, 0, 0).ended().refused("behind other segments", 8, 2 + 52 + 6 + 1);
    }

    /** "DRI DD: the RESTART interval"; "DRI 0 ends intervals", the latest counts, one told between scans too. */
    private static void intervalsTold() {
        Stream s = Stream.begun().segment(0xDD, 0, 7).frame(0xC2, 8, 16, 8, 0x11).dcTable(0).segment(0xDD, 0, 1);
        s.scan(0, 0, 1, 10).data("00000").bytes(255, 0xD0).data("00000").segment(0xDD, 0, 0).scan(0, 0, 0x10, 10)
            .data("11");
        Due.is("1", copy(s).ended().taken("ended", 2).coefficient(0, 1, 0), 1);
        Stream most = Stream.begun().segment(0xDD, 255, 255).frame(0xC2, 8, 16, 8, 0x11).dcTable(0).scan(0, 0, 0, 10);
        fine("65535", most, 1, "00000 00000");
        Stream high = Stream.begun().segment(0xDD, 1, 0).frame(0xC2, 8, 16, 8, 0x11).dcTable(0).scan(0, 0, 0, 10);
        fine("256 is not 0 and not 1", high, 1, "00000 00000");
        Stream wide = Stream.begun().segment(0xDD, 7, 209).frame(0xC2, 8, 16, 8, 0x11).dcTable(0).scan(0, 0, 0, 10);
        fine("2001 can be read", wide, 1, "00000 00000");
    }

    private static void again(String what, ScanDesk d, Stream s, int answer, int place) {
        Due.is(what, s.readBy(d), answer);
        Due.is(what + ": place", d.errorAt(), place);
    }

    /** Nothing of an earlier stream is left: its tables of every number, its interval, its bits. */
    private static void nothingIsLeft() {
        ScanDesk d = new ScanDesk();
        Stream all = Stream.begun().frame(0xC2, 8, 8, 8, 0x11).segment(0xDD, 0, 1);
        for (int number = 0; number < 4; number++) {
            all.dcTable(number).acTable(number);
        }
        for (int number = 0; number < 4; number++) {
            again("all tables", d, copy(all).ended(), 0, -1);
            Stream s = Stream.begun().frame(0xC2, 8, 8, 8, 0x11);
            again("no DC table", d, copy(s).segment(0xDA, 1, 10, 16 * number, 0, 0, 0), -5, s.length() + 1);
            again("all tables", d, copy(all).ended(), 0, -1);
            s.dcTable(0).scan(0, 0, 0, 10).data("00000");
            again("no AC table", d, copy(s).segment(0xDA, 1, 10, number, 1, 1, 0), -5, s.length() + 1);
        }
        again("all tables", d, copy(all).ended(), 0, -1);
        Stream two = Stream.begun().frame(0xC2, 8, 16, 8, 0x11).dcTable(0).scan(0, 0, 0, 10);
        again("no interval", d, copy(two).data("00010 10 00000").ended(), 1, -1);
        Stream fault = copy(two).data("00000 111");
        again("a fault with bits left", d, copy(fault).data("11111111").ended(), -6, fault.length() + 2);
        again("they are gone", d, copy(two).data("00010 10 00000").ended(), 1, -1);
        Due.is("2", d.coefficient(0, 0, 0), 2);
        Stream size = copy(two).data("10000 000");
        again("size 16 with bits left", d, size, -6, size.length());
        again("they are gone", d, copy(two).data("00010 11 00000").ended(), 1, -1);
        Due.is("3", d.coefficient(0, 0, 0), 3);
    }

    /** "WRITTEN: FF D8; SOF ..; DHT ..; DRI if there is an interval; each scan ..; FF D9": every byte around the data. */
    private static void writtenHeads() {
        for (int kind = 1; kind <= 2; kind++) {
            for (int count = 1; count <= 3; count++) {
                int[] body = new int[6 + 3 * count];
                System.arraycopy(new int[] {12, 0, 33, 0, 40, count}, 0, body, 0, 6);
                for (int c = 0; c < count; c++) {
                    body[6 + 3 * c] = c + 1;
                    body[7 + 3 * c] = c == 0 && kind == 1 ? 0x21 : 0x11;
                }
                int[] tables = table(0, kind == 1 ? 34 + 273 : 34, 0, 0, 0, 0, 17);
                for (int i = 0; i < 17; i++) {
                    tables[17 + i] = i;
                }
                for (int i = 0; kind == 1 && i < 256; i++) {
                    tables[51 + i] = i;
                    tables[34] = 16;
                    tables[42] = 128;
                    tables[43] = 128;
                }
                Stream due = Stream.begun().segment(0xC1 + kind, body).segment(0xC4, tables);
                ScanDesk d = new ScanDesk();
                d.picture(kind, 40, 33, 12, count, kind == 1 ? 2 : 1, 1);
                written("no interval", d, copy(due));
                d.restart(1960);
                written("an interval", d, copy(due).segment(0xDD, 7, 168));
                Stream read = Stream.begun().frame(0xC1 + kind, 12, 40, 33, kind == 1 ? 0x21 : 0x11).ended();
                d.restart(0);
                Due.is("read", read.readBy(d), 0);
                d.write();
                Due.is("numbered from 1 on", d.out(12), 1);
                Due.is("the last byte 0", d.out(14), 0);
            }
        }
    }

    private static void written(String what, ScanDesk d, Stream due) {
        byte[] all = due.ended().all();
        Due.is(what, d.write(), all.length);
        for (int i = 0; i < all.length; i++) {
            Due.is(what + " byte " + i, d.out(i), all[i] & 255);
        }
    }

    /** "In the data FF is told as FF 00"; "data, filled up with 1s": also where that makes an FF. */
    private static void writtenFf() {
        for (int n : new int[] {1, 2, 3, 4, 5, 10}) {
            ScanDesk d = new ScanDesk();
            d.picture(1, 8 * Math.min(n, 5), n > 5 ? 16 : 8, 8, 1, 1, 1);
            for (int b = 0; b < n; b++) {
                d.put(0, b, 0, 1);
            }
            d.scan(1, 0, 0, 0, 1);
            d.scan(1, 0, 0, 1, 0);
            d.write();
            String due = n > 8 ? "FF00FF00" : "FF00";
            Due.written(n + " bits", d, d.look(9) - 2 - due.length() / 2, due + "FFD9");
        }
        ScanDesk d = new ScanDesk();
        d.picture(2, 1, 2, 16, 1, 1, 1);
        d.set(0, 0, 0, 65535);
        d.set(0, 0, 1, 65535);
        d.scan(1, 1, 0, 0, 0);
        d.write();
        Due.written("within", d, d.look(9) - 2 - 5, "7F" + "FF00" + "F0" + "7F" + "FFD9");
        d.restart(1);
        d.write();
        Due.written("filled up ahead of RST", d, d.look(9) - 2 - 12, "7FFF00FF00" + "FFD0" + "7FFF00FF00" + "FFD9");
        Due.is("taken", d.take(), d.look(9));
        Due.is("read", d.read(), 1);
        Due.is("65535 twice", d.sample(0, 0, 0) + d.sample(0, 0, 1), 131070);
    }
}
