import java.io.ByteArrayOutputStream;

/** Builds a stream byte by byte, independently of what the program writes. */
final class Stream {
    private final ByteArrayOutputStream bytes = new ByteArrayOutputStream();

    /** A stream that begins as it must. */
    static Stream begun() {
        return new Stream().bytes(0xFF, 0xD8);
    }

    /** A progressive picture of one component with one block, DC table 0 and AC table 0. */
    static Stream oneBlock() {
        return begun().frame(0xC2, 8, 8, 8, 0x11).dcTable(0).acTable(0);
    }

    Stream bytes(int... values) {
        for (int value : values) {
            bytes.write(value);
        }
        return this;
    }

    Stream hex(String text) {
        for (int i = 0; i + 1 < text.length(); i += 2) {
            bytes.write(Integer.parseInt(text.substring(i, i + 2), 16));
        }
        return this;
    }

    Stream all(byte[] values) {
        bytes.write(values, 0, values.length);
        return this;
    }

    int length() {
        return bytes.size();
    }

    byte[] all() {
        return bytes.toByteArray();
    }

    Stream segment(int code, int... body) {
        bytes(0xFF, code, body.length + 2 >> 8, body.length + 2 & 255);
        return bytes(body);
    }

    /** Components are numbered 10, 20, 30, so that a number is no place. */
    Stream frame(int code, int bits, int width, int height, int... factors) {
        int[] body = new int[6 + 3 * factors.length];
        body[0] = bits;
        body[1] = height >> 8;
        body[2] = height & 255;
        body[3] = width >> 8;
        body[4] = width & 255;
        body[5] = factors.length;
        for (int c = 0; c < factors.length; c++) {
            body[6 + 3 * c] = 10 * (c + 1);
            body[7 + 3 * c] = factors[c];
            body[8 + 3 * c] = 77;
        }
        return segment(code, body);
    }

    /** Symbols 0 .. 30 with five bits each: the code of a symbol is its number. */
    Stream dcTable(int number) {
        int[] body = new int[17 + 31];
        body[0] = number;
        body[5] = 31;
        for (int i = 0; i < 31; i++) {
            body[17 + i] = i;
        }
        return segment(0xC4, body);
    }

    /** Symbols 0 .. 254 with eight bits each: the code of a symbol is its number. */
    Stream acTable(int number) {
        int[] body = new int[17 + 255];
        body[0] = 16 + number;
        body[8] = 255;
        for (int i = 0; i < 255; i++) {
            body[17 + i] = i;
        }
        return segment(0xC4, body);
    }

    /** A scan's head with tables 0; components by their numbers. */
    Stream scan(int ss, int se, int shifts, int... numbers) {
        int[] body = new int[4 + 2 * numbers.length];
        body[0] = numbers.length;
        for (int i = 0; i < numbers.length; i++) {
            body[1 + 2 * i] = numbers[i];
        }
        body[body.length - 3] = ss;
        body[body.length - 2] = se;
        body[body.length - 1] = shifts;
        return segment(0xDA, body);
    }

    /** Data of 0s and 1s (blanks are passed by), filled up with 1s, FF told as FF 00. */
    Stream data(String bits) {
        StringBuilder all = new StringBuilder(bits.replace(" ", ""));
        while (all.length() % 8 != 0) {
            all.append('1');
        }
        for (int i = 0; i < all.length(); i += 8) {
            int value = Integer.parseInt(all.substring(i, i + 8), 2);
            bytes(value);
            if (value == 255) {
                bytes(0);
            }
        }
        return this;
    }

    Stream ended() {
        return bytes(0xFF, 0xD9);
    }

    /** The lowest n bits of a number as text. */
    static String low(int value, int n) {
        StringBuilder text = new StringBuilder();
        for (int i = n - 1; i >= 0; i--) {
            text.append(value >> i & 1);
        }
        return text.toString();
    }

    void onto(ScanDesk desk) {
        byte[] all = bytes.toByteArray();
        desk.end(0);
        for (int i = 0; i < all.length; i += 20) {
            int[] four = new int[5];
            for (int j = 0; j < 20; j++) {
                int value = i + j < all.length ? all[i + j] & 255 : 0;
                four[j / 4] = four[j / 4] << 8 | value;
            }
            desk.feed(four[0], four[1], four[2], four[3], four[4]);
        }
        Due.is("end(" + all.length + ")", desk.end(all.length), all.length);
    }

    int readBy(ScanDesk desk) {
        onto(desk);
        return desk.read();
    }

    /** Reads it on a new desk, where it has to be taken with so many scans. */
    ScanDesk taken(String what, int scans) {
        ScanDesk desk = new ScanDesk();
        Due.is(what + " read()", readBy(desk), scans);
        Due.is(what + " errorAt()", desk.errorAt(), -1);
        return desk;
    }

    /** Reads it on a new desk, where it has to be refused. */
    void refused(String what, int kind, int place) {
        ScanDesk desk = new ScanDesk();
        Due.is(what + " read()", readBy(desk), -kind);
        Due.is(what + " errorAt()", desk.errorAt(), place);
        Due.is(what + " look(0)", desk.look(0), 0);
        Due.is(what + " look(8)", desk.look(8), 0);
    }
}
