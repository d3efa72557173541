import java.util.ArrayList;
import java.util.Arrays;
import java.util.List;

/**
 * A second reader and writer, written from the document alone and in another manner than the program (faults are
 * thrown, bits are text, blocks are lists), so that one's slip is not the other's.
 */
final class Oracle {
    /** A fault of a stream. */
    static final class Fault extends RuntimeException {
        private static final long serialVersionUID = 1L;
        final int kind;
        final int place;

        Fault(int kind, int place) {
            super(kind + " at " + place);
            this.kind = kind;
            this.place = place;
        }
    }

    /** A block or a sample of a component. */
    private record Unit(int component, int x, int y) {
    }

    int kind;
    int width;
    int height;
    int bits;
    int count;
    int scans;
    final int[] h = new int[3];
    final int[] v = new int[3];
    final int[][][][] blocks = new int[3][][][];
    final int[][][] samples = new int[3][][];
    final int[][] known = new int[3][64];

    private final int[] numbers = new int[3];
    private final String[][][] tables = new String[2][4][];
    private int interval;
    private byte[] tape;
    private int at;
    private String waiting = "";

    private static int up(int whole, int part) {
        return whole / part + (whole % part == 0 ? 0 : 1);
    }

    int hMax() {
        return Math.max(h[0], Math.max(h[1], h[2]));
    }

    int vMax() {
        return Math.max(v[0], Math.max(v[1], v[2]));
    }

    int x(int c) {
        return up(width * h[c], hMax());
    }

    int y(int c) {
        return up(height * v[c], vMax());
    }

    int mcus() {
        return kind == 2 ? width : up(width, 8 * hMax());
    }

    int mcuRows() {
        return kind == 2 ? height : up(height, 8 * vMax());
    }

    private void lay() {
        for (int c = 0; c < 3; c++) {
            Arrays.fill(known[c], -1);
            if (c < count) {
                blocks[c] = new int[mcuRows() * v[c]][mcus() * h[c]][64];
                samples[c] = new int[height][width];
            }
        }
    }

    private boolean pictureCanBe() {
        boolean size = width >= 1 && width <= 40 && height >= 1 && height <= 40 && count >= 1 && count <= 3;
        boolean depth = kind == 1 ? bits == 8 || bits == 12 : bits >= 2 && bits <= 16;
        boolean factors = true;
        for (int c = 0; c < count && c < 3; c++) {
            int most = kind == 1 ? 2 : 1;
            factors &= h[c] >= 1 && h[c] <= most && v[c] >= 1 && v[c] <= most;
        }
        return size && depth && factors;
    }

    private List<Unit> order(List<Integer> parts) {
        List<Unit> all = new ArrayList<>();
        if (parts.size() == 1) {
            int c = parts.get(0);
            int across = kind == 1 ? up(x(c), 8) : x(c);
            int down = kind == 1 ? up(y(c), 8) : y(c);
            for (int i = 0; i < across * down; i++) {
                all.add(new Unit(c, i % across, i / across));
            }
            return all;
        }
        for (int mcu = 0; mcu < mcus() * mcuRows(); mcu++) {
            for (int c : parts) {
                for (int i = 0; i < h[c] * v[c]; i++) {
                    all.add(new Unit(c, mcu % mcus() * h[c] + i % h[c], mcu / mcus() * v[c] + i / h[c]));
                }
            }
        }
        return all;
    }

    private int inMcu(List<Integer> parts) {
        int units = 0;
        for (int c : parts) {
            units += h[c] * v[c];
        }
        return parts.size() == 1 ? 1 : units;
    }

    /** Whether a scan can be and can follow those that made this known; then it is known as it tells. */
    private static boolean follow(Oracle o, List<Integer> parts, int ss, int se, int ah, int al) {
        if (o.kind == 2) {
            boolean can = ss >= 1 && ss <= 7 && se == 0 && ah == 0 && al < o.bits;
            for (int c : parts) {
                can &= o.known[c][0] == -1;
            }
            for (int c : parts) {
                o.known[c][0] = al;
            }
            return can;
        }
        boolean can = al <= 13 && (ah == 0 || al == ah - 1);
        can &= ss == 0 ? se == 0 : ss <= se && se <= 63 && parts.size() == 1;
        can &= o.inMcu(parts) <= 10;
        for (int c : parts) {
            for (int k = ss; can && k <= se; k++) {
                can &= o.known[c][k] == (ah == 0 ? -1 : ah) && (ss == 0 || o.known[c][0] != -1);
            }
            for (int k = ss; can && k <= se; k++) {
                o.known[c][k] = al;
            }
        }
        return can;
    }

    // ---- reading

    static Oracle read(byte[] tape) {
        Oracle o = new Oracle();
        o.tape = tape;
        o.readAll();
        return o;
    }

    private int next() {
        if (at == tape.length) {
            throw new Fault(1, at);
        }
        return tape[at++] & 255;
    }

    private int pair() {
        int high = next();
        return 256 * high + next();
    }

    private void readAll() {
        if (next() != 255) {
            throw new Fault(2, 0);
        }
        if (next() != 0xD8) {
            throw new Fault(2, 1);
        }
        boolean behindData = false;
        while (true) {
            int start = at;
            if (next() != 255) {
                throw new Fault(behindData ? 8 : 2, start);
            }
            int code = 255;
            while (code == 255) {
                code = next();
            }
            int codeAt = at - 1;
            if (behindData && (code == 0 || code >> 3 == 0xD0 >> 3)) {
                throw new Fault(8, start);
            }
            if (code == 0xD9) {
                if (kind == 0) {
                    throw new Fault(8, codeAt);
                }
                if (at < tape.length) {
                    throw new Fault(8, at);
                }
                return;
            }
            if (code >> 4 != 0xE && !List.of(0xC2, 0xC3, 0xC4, 0xDA, 0xDB, 0xDD, 0xFE).contains(code)) {
                throw new Fault(2, codeAt);
            }
            behindData = segment(code, codeAt);
        }
    }

    /** Whether data stood behind it. */
    private boolean segment(int code, int codeAt) {
        int length = pair();
        if (length < 2 || codeAt + 1 + length > tape.length) {
            throw new Fault(3, codeAt);
        }
        int end = codeAt + 1 + length;
        int[] body = new int[length - 2];
        int from = at;
        for (int i = 0; i < body.length; i++) {
            body[i] = next();
        }
        if (code == 0xC2 || code == 0xC3) {
            frame(code, codeAt, body);
        } else if (code == 0xC4) {
            huffman(codeAt, from, body);
        } else if (code == 0xDD) {
            if (body.length != 2) {
                throw new Fault(3, codeAt);
            }
            interval = body[0] * 256 + body[1];
        } else if (code == 0xDA) {
            scan(codeAt, body);
        }
        at = code == 0xDA ? at : end;
        return code == 0xDA;
    }

    private void frame(int code, int codeAt, int[] body) {
        if (kind != 0 || body.length < 6 || body.length != 6 + 3 * body[5]) {
            throw new Fault(3, codeAt);
        }
        kind = code - 0xC1;
        bits = body[0];
        height = body[1] * 256 + body[2];
        width = body[3] * 256 + body[4];
        count = body[5];
        boolean twice = false;
        for (int c = 0; c < count && c < 3; c++) {
            numbers[c] = body[6 + 3 * c];
            h[c] = body[7 + 3 * c] / 16;
            v[c] = body[7 + 3 * c] % 16;
            for (int d = 0; d < c; d++) {
                twice |= numbers[c] == numbers[d];
            }
        }
        if (twice || !pictureCanBe()) {
            throw new Fault(3, codeAt);
        }
        lay();
    }

    /** A table is a text of its code for each of the symbols, and the symbol behind it. */
    private void huffman(int codeAt, int from, int[] body) {
        int i = 0;
        while (i < body.length) {
            if (body[i] / 16 > 1 || body[i] % 16 > 3 || i + 17 > body.length) {
                throw new Fault(3, codeAt);
            }
            List<String> codes = new ArrayList<>();
            long code = 0;
            int total = 0;
            boolean tooMany = false;
            for (int size = 1; size <= 16; size++) {
                code *= 2;
                for (int j = 0; j < body[i + size]; j++) {
                    tooMany |= code >= 1L << size;
                    codes.add(Stream.low((int) code, size));
                    code++;
                    total++;
                }
            }
            if (tooMany || total > 256) {
                throw new Fault(4, from + i);
            }
            if (i + 17 + total > body.length) {
                throw new Fault(3, codeAt);
            }
            String[] bySymbol = new String[total];
            for (int j = 0; j < total; j++) {
                bySymbol[j] = codes.get(j) + ":" + body[i + 17 + j];
            }
            tables[body[i] / 16][body[i] % 16] = bySymbol;
            i += 17 + total;
        }
    }

    private void scan(int codeAt, int[] body) {
        if (body.length < 1 || body.length != 4 + 2 * body[0]) {
            throw new Fault(3, codeAt);
        }
        Fault bad = new Fault(5, codeAt);
        if (kind == 0 || body[0] < 1 || body[0] > 3) {
            throw bad;
        }
        List<Integer> parts = new ArrayList<>();
        int[] dc = new int[3];
        int[] ac = new int[3];
        for (int i = 1; i < 2 * body[0]; i += 2) {
            int found = -1;
            for (int c = 0; c < count; c++) {
                found = numbers[c] == body[i] ? c : found;
            }
            if (found == -1 || (!parts.isEmpty() && parts.get(parts.size() - 1) >= found)) {
                throw bad;
            }
            dc[found] = body[i + 1] / 16;
            ac[found] = body[i + 1] % 16;
            if (dc[found] > 3 || ac[found] > 3) {
                throw bad;
            }
            parts.add(found);
        }
        int ss = body[body.length - 3];
        int se = body[body.length - 2];
        int ah = body[body.length - 1] / 16;
        int al = body[body.length - 1] % 16;
        if (!follow(this, parts, ss, se, ah, al)) {
            throw bad;
        }
        boolean needsDc = kind == 2 || (ss == 0 && ah == 0);
        boolean needsAc = kind == 1 && ss > 0;
        for (int c : parts) {
            if ((needsDc && tables[0][dc[c]] == null) || (needsAc && tables[1][ac[c]] == null)) {
                throw bad;
            }
        }
        if (kind == 2 && interval % width != 0) {
            throw bad;
        }
        scans++;
        data(parts, dc, ac, new int[] {ss, se, ah, al});
    }

    private int bit() {
        if (waiting.isEmpty()) {
            int place = at;
            int value = next();
            if (value == 255 && next() != 0) {
                throw new Fault(6, place);
            }
            waiting = Stream.low(value, 8);
        }
        int bit = waiting.charAt(0) - '0';
        waiting = waiting.substring(1);
        return bit;
    }

    private int number(int n) {
        int value = 0;
        for (int i = 0; i < n; i++) {
            value = 2 * value + bit();
        }
        return value;
    }

    private int signed(int size) {
        int value = number(size);
        return size == 0 || value >= 1 << size - 1 ? value : value + 1 - (1 << size);
    }

    private int symbol(String[] table) {
        StringBuilder code = new StringBuilder();
        for (int i = 0; i < 16; i++) {
            code.append(bit());
            for (String entry : table) {
                if (entry.startsWith(code + ":")) {
                    return Integer.parseInt(entry.substring(code.length() + 1));
                }
            }
        }
        throw new Fault(6, at);
    }

    private void restart(int m) {
        waiting = "";
        int place = at;
        if (next() != 255 || next() != 0xD0 + m) {
            throw new Fault(7, place);
        }
    }

    private void data(List<Integer> parts, int[] dc, int[] ac, int[] f) {
        List<Unit> units = order(parts);
        int span = interval == 0 ? units.size() : interval * inMcu(parts);
        waiting = "";
        int[] ahead = new int[3];
        int run = 0;
        int restarts = 0;
        for (int i = 0; i < units.size(); i++) {
            if (i > 0 && i % span == 0) {
                restart(restarts++ % 8);
                ahead = new int[3];
            }
            Unit u = units.get(i);
            int left = Math.min(units.size() - i, span - i % span);
            if (kind == 2) {
                readSample(u, tables[0][dc[u.component]], f, i % span < parts.size() * width, i % span < parts.size());
            } else if (f[0] == 0) {
                int[] block = blocks[u.component][u.y][u.x];
                if (f[2] > 0) {
                    block[0] += bit() << f[3];
                } else {
                    int size = symbol(tables[0][dc[u.component]]);
                    if (size > 15) {
                        throw new Fault(6, at);
                    }
                    ahead[u.component] += signed(size);
                    block[0] = ahead[u.component] * (1 << f[3]);
                }
            } else {
                run = readBand(blocks[u.component][u.y][u.x], tables[1][ac[u.component]], f, run, left);
            }
        }
        waiting = "";
        for (int c : parts) {
            for (int i = 0; kind == 2 && i < width * height; i++) {
                samples[c][i / width][i % width] = (samples[c][i / width][i % width] << f[3]) % 65536;
            }
        }
    }

    private int prediction(int[][] s, int x, int y, int[] f, boolean firstRow, boolean first) {
        if (first) {
            return 1 << bits - f[3] - 1;
        }
        if (firstRow) {
            return s[y][x - 1];
        }
        if (x == 0) {
            return s[y - 1][0];
        }
        int a = s[y][x - 1];
        int b = s[y - 1][x];
        int c = s[y - 1][x - 1];
        int[] all = {a, b, c, a + b - c, a + Math.floorDiv(b - c, 2), b + Math.floorDiv(a - c, 2), (a + b) / 2};
        return all[f[0] - 1];
    }

    private void readSample(Unit u, String[] table, int[] f, boolean firstRow, boolean first) {
        int size = symbol(table);
        if (size > 16) {
            throw new Fault(6, at);
        }
        int difference = size == 16 ? 32768 : signed(size);
        int[][] s = samples[u.component];
        s[u.y][u.x] = Math.floorMod(prediction(s, u.x, u.y, f, firstRow, first) + difference, 65536);
    }

    /** How many blocks of a run are left behind this one. */
    private int readBand(int[] block, String[] table, int[] f, int runLeft, int left) {
        int k = f[0];
        int run = runLeft;
        while (run == 0 && k <= f[1]) {
            int symbol = symbol(table);
            int zeros = symbol / 16;
            int size = symbol % 16;
            if (f[2] > 0 && size > 1) {
                throw new Fault(6, at);
            }
            if (size == 0 && zeros < 15) {
                run = (1 << zeros) + number(zeros);
                if (run > left) {
                    throw new Fault(6, at);
                }
                continue;
            }
            int fresh = 0;
            if (f[2] > 0 && size == 1) {
                fresh = bit() == 1 ? 1 : -1;
            }
            for (; k <= f[1] && (zeros > 0 || (f[2] > 0 && block[k] != 0)); k++) {
                zeros -= f[2] > 0 && corrected(block, k, f[3]) ? 0 : 1;
            }
            if (k > f[1]) {
                throw new Fault(6, at);
            }
            block[k++] = (f[2] > 0 ? fresh : signed(size)) * (1 << f[3]);
        }
        for (; run > 0 && f[2] > 0 && k <= f[1]; k++) {
            corrected(block, k, f[3]);
        }
        return Math.max(0, run - 1);
    }

    /** What isn't 0 takes a bit. */
    private boolean corrected(int[] block, int k, int al) {
        if (block[k] == 0) {
            return false;
        }
        block[k] += bit() * Integer.signum(block[k]) * (1 << al);
        return true;
    }

    // ---- writing

    /** What write() has to write, or null where -4 is due; each scan is components, SS, SE, AH, AL. */
    static byte[] write(Oracle o, List<int[]> script, int interval) {
        Stream s = Stream.begun();
        int[] frame = new int[6 + 3 * o.count];
        frame[0] = o.bits;
        frame[2] = o.height;
        frame[4] = o.width;
        frame[5] = o.count;
        for (int c = 0; c < o.count; c++) {
            frame[6 + 3 * c] = c + 1;
            frame[7 + 3 * c] = 16 * o.h[c] + o.v[c];
        }
        s.segment(0xC1 + o.kind, frame);
        int[] tables = new int[o.kind == 1 ? 34 + 273 : 34];
        tables[5] = 17;
        for (int i = 0; i < 17; i++) {
            tables[17 + i] = i;
        }
        if (o.kind == 1) {
            tables[34] = 16;
            tables[34 + 8] = 128;
            tables[34 + 9] = 128;
            for (int i = 0; i < 256; i++) {
                tables[51 + i] = i;
            }
        }
        s.segment(0xC4, tables);
        if (interval > 0) {
            s.segment(0xDD, interval / 256, interval % 256);
        }
        for (int[] scan : script) {
            if (!writeScan(o, s, scan, interval)) {
                return null;
            }
        }
        return s.ended().all();
    }

    private static boolean writeScan(Oracle o, Stream s, int[] scan, int interval) {
        List<Integer> parts = new ArrayList<>();
        for (int c = 0; c < 3; c++) {
            if ((scan[0] & 1 << c) != 0) {
                parts.add(c);
            }
        }
        int[] head = new int[4 + 2 * parts.size()];
        head[0] = parts.size();
        for (int i = 0; i < parts.size(); i++) {
            head[1 + 2 * i] = parts.get(i) + 1;
        }
        head[head.length - 3] = scan[1];
        head[head.length - 2] = scan[2];
        head[head.length - 1] = 16 * scan[3] + scan[4];
        s.segment(0xDA, head);
        List<Unit> units = o.order(parts);
        int span = interval == 0 ? units.size() : interval * o.inMcu(parts);
        for (int from = 0; from < units.size(); from += span) {
            if (from > 0) {
                s.bytes(255, 0xD0 + (from / span - 1) % 8);
            }
            String bits = o.bitsOf(units.subList(from, Math.min(units.size(), from + span)), parts.size(), scan);
            if (bits == null) {
                return false;
            }
            s.data(bits);
        }
        return true;
    }

    private static String signedBits(int value, int size) {
        return Stream.low(value < 0 ? value + (1 << size) - 1 : value, size);
    }

    private static int size(int value) {
        return 32 - Integer.numberOfLeadingZeros(Math.abs(value));
    }

    private static String ac(int symbol) {
        return symbol < 128 ? Stream.low(symbol, 8) : Stream.low(symbol - 128 + 256, 9);
    }

    /** The bits of one interval; null where a size is above 15. */
    private String bitsOf(List<Unit> units, int parts, int[] scan) {
        if (kind == 2) {
            return sampleBits(units, parts, scan);
        }
        if (scan[1] > 0) {
            return scan[3] == 0 ? bandBits(units, scan) : bandAgainBits(units, scan);
        }
        StringBuilder all = new StringBuilder();
        int[] ahead = new int[3];
        for (Unit u : units) {
            int dc = blocks[u.component][u.y][u.x][0] >> scan[4];
            if (scan[3] > 0) {
                all.append(dc & 1);
                continue;
            }
            int difference = dc - ahead[u.component];
            ahead[u.component] = dc;
            if (size(difference) > 15) {
                return null;
            }
            all.append(Stream.low(size(difference), 5)).append(signedBits(difference, size(difference)));
        }
        return all.toString();
    }

    private String sampleBits(List<Unit> units, int parts, int[] scan) {
        StringBuilder all = new StringBuilder();
        int[][][] halved = new int[3][height][width];
        int[] f = {scan[1], 0, 0, scan[4]};
        for (int i = 0; i < units.size(); i++) {
            Unit u = units.get(i);
            int[][] s = halved[u.component];
            s[u.y][u.x] = samples[u.component][u.y][u.x] >> scan[4];
            int difference = s[u.y][u.x] - prediction(s, u.x, u.y, f, i < parts * width, i < parts);
            difference = Math.floorMod(difference + 32767, 65536) - 32767;
            int size = size(difference);
            all.append(Stream.low(size, 5)).append(size == 16 ? "" : signedBits(difference, size));
        }
        return all.toString();
    }

    private static String runBits(int run) {
        if (run == 0) {
            return "";
        }
        int size = size(run) - 1;
        return ac(16 * size) + Stream.low(run, size);
    }

    private String bandBits(List<Unit> units, int[] scan) {
        StringBuilder all = new StringBuilder();
        int run = 0;
        for (Unit u : units) {
            int[] block = blocks[u.component][u.y][u.x];
            int behind = scan[1];
            for (int k = scan[1]; k <= scan[2]; k++) {
                int value = block[k] / (1 << scan[4]);
                if (value == 0) {
                    continue;
                }
                if (size(value) > 15) {
                    return null;
                }
                all.append(runBits(run)).append(ac(0xF0).repeat((k - behind) / 16));
                run = 0;
                all.append(ac((k - behind) % 16 * 16 + size(value))).append(signedBits(value, size(value)));
                behind = k + 1;
            }
            run += behind <= scan[2] ? 1 : 0;
        }
        return all + runBits(run);
    }

    private String bandAgainBits(List<Unit> units, int[] scan) {
        StringBuilder all = new StringBuilder();
        StringBuilder waitingBits = new StringBuilder();
        int run = 0;
        for (Unit u : units) {
            int[] block = blocks[u.component][u.y][u.x];
            int last = scan[1] - 1;
            for (int k = scan[1]; k <= scan[2]; k++) {
                last = Math.abs(block[k] / (1 << scan[4])) == 1 ? k : last;
            }
            if (last >= scan[1]) {
                all.append(runBits(run)).append(waitingBits);
                run = 0;
                waitingBits.setLength(0);
            }
            int zeros = 0;
            StringBuilder own = new StringBuilder();
            for (int k = scan[1]; k <= scan[2]; k++) {
                int value = block[k] / (1 << scan[4]);
                if (value == 0) {
                    zeros++;
                    continue;
                }
                while (zeros > 15 && k <= last) {
                    all.append(ac(0xF0)).append(own);
                    own.setLength(0);
                    zeros -= 16;
                }
                if (Math.abs(value) > 1) {
                    own.append(value & 1);
                } else {
                    all.append(ac(16 * zeros + 1)).append(value > 0 ? 1 : 0).append(own);
                    own.setLength(0);
                    zeros = 0;
                }
            }
            if (zeros > 0 || own.length() > 0) {
                run++;
                waitingBits.append(own);
            }
            if (waitingBits.length() > 936) {
                all.append(runBits(run)).append(waitingBits);
                run = 0;
                waitingBits.setLength(0);
            }
        }
        return all + runBits(run) + waitingBits;
    }
}
