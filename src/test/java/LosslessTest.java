/** Promises 11 and 13, lossless: predictors, points, differences and restarts, written and read. */
final class LosslessTest {
    private static final int HEAD = 2 + 13 + 38;

    public static void main(String[] args) {
        predictors();
        points();
        halfOfAll();
        interleaved();
        restarts();
        oneColumn();
        pointsInRows();
        wholeRows();
        beyondItsBits();
        numbersAsDecoded();
        roundsWithAllPredictors();
        tooLong();
        Due.end();
    }

    private static String number(int difference) {
        int size = 32 - Integer.numberOfLeadingZeros(Math.abs(difference));
        return Stream.low(size, 5) + Stream.low(difference < 0 ? difference - 1 : difference, size);
    }

    private static void data(String what, ScanDesk d, int from, String bits) {
        byte[] want = new Stream().data(bits).ended().all();
        Due.is(what + " bytes", d.look(9) - from, want.length);
        for (int i = 0; i < want.length; i++) {
            Due.is(what + " byte " + i, d.out(from + i), want[i] & 255);
        }
    }

    private static void again(String what, ScanDesk d, int scans) {
        Due.is(what + " take", d.take(), d.look(9));
        Due.is(what + " read", d.read(), scans);
        Due.is(what + " errorAt", d.errorAt(), -1);
    }

    /** Left 100, above 31, corner 50: each predictor tells another number. */
    private static void predictors() {
        int[] predictions = {100, 31, 50, 81, 90, 56, 65};
        for (int p = 1; p <= 7; p++) {
            ScanDesk d = new ScanDesk();
            d.picture(2, 2, 2, 8, 1, 1, 1);
            d.set(0, 0, 0, 50);
            d.set(0, 1, 0, 31);
            d.set(0, 0, 1, 100);
            d.set(0, 1, 1, 77);
            d.scan(1, p, 0, 0, 0);
            d.write();
            Due.written("SOS", d, HEAD, "FFDA00080101000" + p + "0000");
            data("predictor " + p, d, HEAD + 10,
                number(50 - 128) + number(31 - 50) + number(100 - 50) + number(77 - predictions[p - 1]));
            again("predictor " + p, d, 1);
            Due.is("predictor " + p, d.sample(0, 1, 1), 77);
            Due.is("above", d.sample(0, 1, 0), 31);
            Due.is("left", d.sample(0, 0, 1), 100);
        }
    }

    private static void points() {
        ScanDesk d = new ScanDesk();
        d.picture(2, 3, 1, 10, 1, 1, 1);
        d.set(0, 0, 0, 1023);
        d.set(0, 1, 0, 6);
        d.set(0, 2, 0, 3);
        d.scan(1, 1, 0, 0, 2);
        d.write();
        data("POINT 2", d, HEAD + 10, number(255 - 128) + number(1 - 255) + number(-1));
        again("POINT 2", d, 1);
        Due.is("1020", d.sample(0, 0, 0), 1020);
        Due.is("4", d.sample(0, 1, 0), 4);
        Due.is("0", d.sample(0, 2, 0), 0);
        Due.is("known as the POINT", d.known(0, 0), 2);
        Due.is("nothing else is known", d.known(0, 1), -1);
        d.picture(2, 1, 1, 16, 1, 1, 1);
        d.set(0, 0, 0, 65535);
        d.scan(1, 1, 0, 0, 15);
        d.write();
        data("POINT 15", d, HEAD + 10, number(0));
        again("POINT 15", d, 1);
        Due.is("32768", d.sample(0, 0, 0), 32768);
    }

    private static void halfOfAll() {
        ScanDesk d = new ScanDesk();
        d.picture(2, 4, 1, 16, 1, 1, 1);
        d.set(0, 1, 0, 32769);
        d.set(0, 2, 0, 0);
        d.set(0, 3, 0, 32769);
        d.scan(1, 1, 0, 0, 0);
        d.write();
        data("32768 and around 65536", d, HEAD + 10, "10000" + number(-32767) + number(32767) + number(-32767));
        again("half", d, 1);
        Due.is("0", d.sample(0, 0, 0), 0);
        Due.is("32769", d.sample(0, 1, 0), 32769);
        Due.is("0 again", d.sample(0, 2, 0), 0);
        Due.is("32769 again", d.sample(0, 3, 0), 32769);
    }

    private static void interleaved() {
        ScanDesk d = new ScanDesk();
        d.picture(2, 2, 2, 4, 3, 1, 1);
        for (int i = 0; i < 12; i++) {
            d.set(i % 3, i / 3 % 2, i / 6, i);
        }
        d.scan(5, 2, 0, 0, 0);
        d.scan(2, 1, 0, 0, 0);
        d.write();
        int head = HEAD + 6;
        Due.written("SOS of two", d, head, "FFDA000A0201000300020000");
        String first = number(0 - 8) + number(2 - 8) + number(3) + number(3);
        String second = number(6) + number(6) + number(6) + number(6);
        int bytes = new Stream().data(first + second).length();
        Due.written("SOS of one", d, head + 12 + bytes, "FFDA0008010200010000");
        data("of one", d, head + 12 + bytes + 10, number(1 - 8) + number(3) + number(6) + number(3));
        again("interleaved", d, 2);
        for (int i = 0; i < 12; i++) {
            Due.is("sample " + i, d.sample(i % 3, i / 3 % 2, i / 6), i);
        }
    }

    private static void restarts() {
        ScanDesk d = new ScanDesk();
        d.picture(2, 2, 4, 8, 1, 1, 1);
        for (int i = 0; i < 8; i++) {
            d.set(0, i % 2, i / 2, 10 + i * i);
        }
        d.scan(1, 4, 0, 0, 0);
        d.restart(4);
        d.write();
        byte[] first = new Stream().data(number(10 - 128) + number(1) + number(4) + number(19 - (14 + 11 - 10))).all();
        for (int i = 0; i < first.length; i++) {
            Due.is("first " + i, d.out(HEAD + 6 + 10 + i), first[i] & 255);
        }
        int from = HEAD + 6 + 10 + first.length;
        Due.written("RST", d, from, "FFD0");
        data("second", d, from + 2, number(26 - 128) + number(9) + number(20) + number(59 - (46 + 35 - 26)));
        again("restarts", d, 1);
        for (int i = 0; i < 8; i++) {
            Due.is("sample " + i, d.sample(0, i % 2, i / 2), 10 + i * i);
        }
    }

    private static void oneColumn() {
        ScanDesk d = new ScanDesk();
        d.picture(2, 1, 4, 8, 1, 1, 1);
        for (int y = 0; y < 4; y++) {
            d.set(0, 0, y, 10 + y);
        }
        d.scan(1, 1, 0, 0, 0);
        d.write();
        data("by what is above", d, HEAD + 10, number(10 - 128) + number(1) + number(1) + number(1));
        d.restart(2);
        d.write();
        byte[] half = new Stream().data(number(12 - 128) + number(1)).all();
        for (int i = 0; i < half.length; i++) {
            Due.is("behind a RST " + i, d.out(d.look(9) - 2 - half.length + i), half[i] & 255);
        }
    }

    private static void pointsInRows() {
        ScanDesk d = new ScanDesk();
        d.picture(2, 2, 2, 8, 2, 1, 1);
        int[] values = {50, 31, 100, 77};
        for (int i = 0; i < 4; i++) {
            d.set(1, i % 2, i / 2, values[i]);
        }
        d.scan(2, 4, 0, 0, 2);
        d.write();
        data("POINT 2 in rows", d, HEAD + 3 + 10,
            number(12 - 32) + number(7 - 12) + number(25 - 12) + number(19 - (25 + 7 - 12)));
        again("POINT 2 in rows", d, 1);
        for (int i = 0; i < 4; i++) {
            Due.is("sample " + i, d.sample(1, i % 2, i / 2), values[i] / 4 * 4);
            Due.is("not told " + i, d.sample(0, i % 2, i / 2), 0);
        }
    }

    private static void wholeRows() {
        ScanDesk d = new ScanDesk();
        d.picture(2, 5, 4, 8, 2, 1, 1);
        int n = d.write();
        d.restart(7);
        Due.is("not whole rows", d.write(), -2);
        Due.is("what was written stays", d.look(9), n);
        d.restart(10);
        Due.is("two rows", d.write(), n + 6);
        d.scan(3, 1, 0, 0, 0);
        Due.is("of two components", d.write(), n + 6 + 12 + 2 * 13 + 2 + 4);
        again("two rows", d, 1);
        d.picture(1, 40, 8, 8, 1, 1, 1);
        d.restart(7);
        Due.yes("progressive needs none", d.write() > 0);
    }

    private static void beyondItsBits() {
        Stream s = Stream.begun().frame(0xC3, 2, 2, 1, 0x11).dcTable(0);
        s.scan(7, 0, 0, 10).data(number(1000) + number(-1003)).ended();
        ScanDesk d = s.taken("beyond", 1);
        Due.is("1002", d.sample(0, 0, 0), 1002);
        Due.is("-1 around", d.sample(0, 1, 0), 65535);
        d.scan(1, 1, 0, 0, 0);
        d.write();
        data("written again", d, HEAD + 10, number(1000) + number(-1003));
        d.set(0, 1, 0, 3);
        Due.no("its bits are 2", d.set(0, 1, 0, 4));
    }

    /** Predicted from the samples that are shown, the last one would be 0x0070. */
    private static void numbersAsDecoded() {
        Stream s = Stream.begun().frame(0xC3, 8, 2, 2, 0x11).dcTable(0);
        s.scan(7, 0, 4, 10).data(number(7 - 8) + number(0) + number(0x1000) + number(0)).ended();
        ScanDesk d = s.taken("as decoded", 1);
        Due.is("first", d.sample(0, 0, 0), 0x70);
        Due.is("above", d.sample(0, 1, 0), 0x70);
        Due.is("left", d.sample(0, 0, 1), 0x0070);
        Due.is("last", d.sample(0, 1, 1), 0x8070);
    }

    private static void roundsWithAllPredictors() {
        for (int p = 1; p <= 7; p++) {
            ScanDesk d = new ScanDesk();
            d.picture(2, 9, 7, 16, 2, 1, 1);
            int[] values = new int[126];
            int seed = 7 * p;
            for (int i = 0; i < 126; i++) {
                seed = seed * 1103515245 + 12345;
                values[i] = seed >>> 16;
                d.set(i % 2, i / 2 % 9, i / 18, values[i]);
            }
            d.scan(p % 2 == 0 ? 3 : 1, p, 0, 0, 0);
            if (p % 2 == 1) {
                d.scan(2, 8 - p, 0, 0, 0);
            }
            d.restart(9 * (p % 3));
            Due.yes("write", d.write() > 0);
            again("rounds " + p, d, p % 2 == 0 ? 1 : 2);
            for (int i = 0; i < 126; i++) {
                Due.is("rounds " + p + " " + i, d.sample(i % 2, i / 2 % 9, i / 18), values[i]);
            }
        }
    }

    /** Every other sample lies 32768 higher: a bit each for a table made for it, twenty for the one that is written. */
    private static void tooLong() {
        int[] table = {0, 1, 1, 0, 0, 0, 0, 0, 0, 0, 0, 0, 0, 0, 0, 0, 0, 16, 15};
        Stream s = Stream.begun().frame(0xC3, 16, 40, 40, 0x11, 0x11, 0x11).segment(0xC4, table);
        StringBuilder bits = new StringBuilder();
        int seed = 1;
        for (int i = 0; i < 4800; i++) {
            seed = seed * 1103515245 + 12345;
            bits.append(seed >>> 30 == 0 ? "10" + Stream.low(seed >>> 8, 15) : "0");
        }
        s.scan(1, 0, 0, 10, 20, 30).data(bits.toString()).ended();
        ScanDesk d = s.taken("long", 1);
        d.scan(7, 1, 0, 0, 0);
        int n = d.write();
        Due.yes("by its own predictor", n > 0);
        d.clear();
        d.scan(7, 5, 0, 0, 0);
        int m = d.write();
        Due.is("by another one", m, -3);
        Due.is("what was written stays", d.look(9), n);
        Due.is("too long for the tape or not", d.take(), n > 6000 ? -1 : n);
    }
}
