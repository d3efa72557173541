import java.util.Arrays;

/**
 * A desk for pictures sent in many scans (ITU-T T.81, annexes G and H, Huffman coding).
 *
 * <p>Every row is made once, by the constructor: calls make no objects, they only use the rows again. What may fail
 * (a new picture, a reading, a writing) is built in a spare that changes places with the shown one when it is whole.
 */
public final class ScanDesk {
    public static final int NONE = -1;

    private static final int PROGRESSIVE = 1;
    private static final int LOSSLESS = 2;

    private static final int MOST_COMPONENTS = 3;
    private static final int MOST_ACROSS = 40;
    private static final int MOST_FACTOR = 2;
    private static final int MOST_ON_TAPE = 6000;
    private static final int MOST_WRITTEN = 12000;
    private static final int MOST_SCANS = 60;
    private static final int MOST_INTERVAL = 2000;
    private static final int MOST_IN_MCU = 10;
    private static final int MOST_UNITS = 4800;
    private static final int MOST_COEFFICIENT = 16383;
    private static final int MOST_SIZE = 15;
    private static final int MOST_SHIFT = 13;
    private static final int MOST_WAITING = 936;

    private static final int SIXTEEN_ZEROS = 0xF0;
    /** In what is written all codes of the DC table have five bits. */
    private static final int DC_BITS = 5;

    private static final int BLOCK = 64;
    /** Cells of one component: 6 by 6 blocks are the most, and 40 by 40 samples are fewer. */
    private static final int ROOM = 2304;
    private static final int LOW_WORD = 65535;
    private static final int HALF_WORD = 32768;

    private static final int DC_FIRST = 0;
    private static final int DC_AGAIN = 1;
    private static final int BAND_FIRST = 2;
    private static final int BAND_AGAIN = 3;
    private static final int SAMPLES = 4;

    private static final int BYTES_END = 1;
    private static final int NO_SEGMENT = 2;
    private static final int BAD_SEGMENT = 3;
    private static final int BAD_TABLE = 4;
    private static final int BAD_SCAN = 5;
    private static final int BAD_DATA = 6;
    private static final int NO_RESTART = 7;
    private static final int STRAY_BYTES = 8;

    private static final int SOF_PROGRESSIVE = 0xC2;
    private static final int SOF_LOSSLESS = 0xC3;
    private static final int DHT = 0xC4;
    private static final int RST = 0xD0;
    private static final int SOI = 0xD8;
    private static final int EOI = 0xD9;
    private static final int SOS = 0xDA;
    private static final int DQT = 0xDB;
    private static final int DRI = 0xDD;
    private static final int APP_FIRST = 0xE0;
    private static final int APP_LAST = 0xEF;
    private static final int COM = 0xFE;

    private final Tape tape;
    private final Script script;
    private final Scan asked;
    private final StreamReader reader;
    private final ScanWriter writer;
    private Picture shown;
    private Picture spare;
    private Sink written;
    private Sink draft;
    private int interval;
    private int scansRead;
    private int faultPlace;

    public ScanDesk() {
        Order order = new Order();
        tape = new Tape();
        script = new Script();
        asked = new Scan();
        reader = new StreamReader(tape, new ScanReader(tape, order));
        writer = new ScanWriter(order);
        shown = new Picture();
        spare = new Picture();
        written = new Sink();
        draft = new Sink();
        interval = 0;
        scansRead = 0;
        faultPlace = NONE;
    }

    public int feed(int a, int b, int c, int d, int e) {
        if (tape.length + 20 > MOST_ON_TAPE) {
            return NONE;
        }
        tape.append(a);
        tape.append(b);
        tape.append(c);
        tape.append(d);
        tape.append(e);
        return tape.length;
    }

    public int end(int n) {
        if (n < 0 || n > tape.length) {
            return NONE;
        }
        tape.length = n;
        return n;
    }

    public int take() {
        if (written.length > MOST_ON_TAPE) {
            return NONE;
        }
        System.arraycopy(written.bytes, 0, tape.bytes, 0, written.length);
        tape.length = written.length;
        return tape.length;
    }

    public boolean picture(int kind, int width, int height, int bits, int components, int h, int v) {
        spare.describe(kind, width, height, bits, components);
        spare.sampling(0, h, v);
        spare.sampling(1, 1, 1);
        spare.sampling(2, 1, 1);
        if (!spare.canBe()) {
            return false;
        }
        spare.lay();
        showSpare();
        return true;
    }

    public boolean put(int component, int block, int k, int v) {
        int cell = shown.coefficientCell(component, block, k);
        if (cell == NONE || v < -MOST_COEFFICIENT || v > MOST_COEFFICIENT) {
            return false;
        }
        shown.store(cell, v);
        return true;
    }

    public boolean set(int component, int x, int y, int v) {
        int cell = shown.sampleCell(component, x, y);
        if (cell == NONE || v < 0 || v >= 1 << shown.bits) {
            return false;
        }
        shown.store(cell, v);
        return true;
    }

    public int scan(int components, int ss, int se, int ah, int al) {
        if (shown.kind == 0) {
            return -1;
        }
        if (components < 1 || components >= 1 << shown.count) {
            return -2;
        }
        asked.tell(components, ss, se, ah, al);
        int refusal = shown.refusal(asked, script.known);
        if (refusal != 0) {
            return -refusal;
        }
        if (script.length >= MOST_SCANS) {
            return -6;
        }
        script.append(asked);
        shown.mark(asked, script.known);
        return script.length;
    }

    public void clear() {
        script.empty();
    }

    public boolean restart(int n) {
        if (n < 0 || n > MOST_INTERVAL) {
            return false;
        }
        interval = n;
        return true;
    }

    public int write() {
        if (shown.kind == 0) {
            return NONE;
        }
        if (!shown.allowsInterval(interval)) {
            return -2;
        }
        draft.empty();
        StreamWriter.writeHead(shown, interval, draft);
        for (int i = 0; i < script.length; i++) {
            script.load(i, asked);
            StreamWriter.writeScanHead(shown, asked, draft);
            if (!writer.writeData(shown, asked, interval, draft)) {
                return -4;
            }
        }
        draft.marker(EOI);
        if (draft.length > MOST_WRITTEN) {
            return -3;
        }
        Sink last = written;
        written = draft;
        draft = last;
        return written.length;
    }

    public int out(int i) {
        if (i < 0 || i >= written.length || i >= MOST_WRITTEN) {
            return NONE;
        }
        return written.bytes[i] & 255;
    }

    public int read() {
        tape.rewind();
        int scans = reader.readStream(spare);
        tape.length = 0;
        if (tape.fault != 0) {
            faultPlace = tape.faultAt;
            return -tape.fault;
        }
        showSpare();
        scansRead = scans;
        faultPlace = NONE;
        return scans;
    }

    public int errorAt() {
        return faultPlace;
    }

    public int look(int what) {
        switch (what) {
            case 0:
                return shown.kind;
            case 7:
                return script.length;
            case 8:
                return scansRead;
            case 9:
                return written.length;
            default:
                return shown.kind == 0 ? NONE : shown.figure(what);
        }
    }

    public int component(int component, int what) {
        return shown.has(component) ? shown.componentFigure(component, what) : NONE;
    }

    public int coefficient(int component, int block, int k) {
        int cell = shown.coefficientCell(component, block, k);
        return cell == NONE ? 0 : shown.cell(cell);
    }

    public int sample(int component, int x, int y) {
        int cell = shown.sampleCell(component, x, y);
        return cell == NONE ? NONE : shown.cell(cell);
    }

    public int known(int component, int k) {
        if (!shown.has(component) || k < 0 || k >= BLOCK) {
            return NONE;
        }
        return shown.known[component * BLOCK + k];
    }

    /** A picture that comes leaves no script: its scans were asked of another one. */
    private void showSpare() {
        Picture last = shown;
        shown = spare;
        spare = last;
        script.empty();
    }

    private static int partsUp(int whole, int part) {
        return part < 1 ? 0 : (whole + part - 1) / part;
    }

    /** How many bits the magnitude has; the shift is unsigned, as the lowest number of all is its own opposite. */
    private static int sizeOf(int number) {
        int magnitude = number < 0 ? -number : number;
        int size = 0;
        while (size < 32 && magnitude >>> size != 0) {
            size++;
        }
        return size;
    }

    private static int extended(int bits, int size) {
        if (size < 1 || size > MOST_SIZE) {
            return 0;
        }
        return bits < 1 << (size - 1) ? bits - (1 << size) + 1 : bits;
    }

    /** The figures of one scan. */
    private static final class Scan {
        int mask;
        int parts;
        int ss;
        int se;
        int ah;
        int al;
        final int[] dcTable = new int[MOST_COMPONENTS];
        final int[] acTable = new int[MOST_COMPONENTS];

        void tell(int components, int first, int last, int high, int low) {
            mask = components;
            parts = Integer.bitCount(components);
            ss = first;
            se = last;
            ah = high;
            al = low;
        }

        boolean has(int component) {
            return (mask >> component & 1) == 1;
        }

        int way(int kind) {
            if (kind == LOSSLESS) {
                return SAMPLES;
            }
            if (ss == 0) {
                return ah == 0 ? DC_FIRST : DC_AGAIN;
            }
            return ah == 0 ? BAND_FIRST : BAND_AGAIN;
        }
    }

    /** The scans that write() tells, and what is known by them alone. */
    private static final class Script {
        private static final int ROW = 5;

        private final int[] rows = new int[MOST_SCANS * ROW];
        final int[] known = new int[MOST_COMPONENTS * BLOCK];
        int length;

        Script() {
            Arrays.fill(known, NONE);
        }

        void empty() {
            length = 0;
            Arrays.fill(known, NONE);
        }

        void append(Scan scan) {
            if (length < 0 || length >= MOST_SCANS) {
                return;
            }
            int row = length * ROW;
            rows[row] = scan.mask;
            rows[row + 1] = scan.ss;
            rows[row + 2] = scan.se;
            rows[row + 3] = scan.ah;
            rows[row + 4] = scan.al;
            length++;
        }

        void load(int i, Scan scan) {
            if (i < 0 || i >= MOST_SCANS) {
                return;
            }
            int row = i * ROW;
            scan.tell(rows[row], rows[row + 1], rows[row + 2], rows[row + 3], rows[row + 4]);
        }
    }

    /** A picture: its shape, its coefficients or samples, and what is known of them by reading. */
    private static final class Picture {
        int kind;
        int width;
        int height;
        int bits;
        int count;
        int mcusAcross;
        int mcusDown;
        final int[] h = new int[MOST_COMPONENTS];
        final int[] v = new int[MOST_COMPONENTS];
        private final int[] wide = new int[MOST_COMPONENTS];
        private final int[] high = new int[MOST_COMPONENTS];
        private final int[] stride = new int[MOST_COMPONENTS];
        private final int[] rows = new int[MOST_COMPONENTS];
        private final int[] cells = new int[MOST_COMPONENTS * ROOM];
        final int[] known = new int[MOST_COMPONENTS * BLOCK];

        Picture() {
            Arrays.fill(known, NONE);
        }

        void describe(int newKind, int newWidth, int newHeight, int newBits, int components) {
            kind = newKind;
            width = newWidth;
            height = newHeight;
            bits = newBits;
            count = components;
        }

        void sampling(int component, int across, int down) {
            if (component < 0 || component >= MOST_COMPONENTS) {
                return;
            }
            h[component] = across;
            v[component] = down;
        }

        boolean canBe() {
            if (width < 1 || width > MOST_ACROSS || height < 1 || height > MOST_ACROSS) {
                return false;
            }
            if (count < 1 || count > MOST_COMPONENTS) {
                return false;
            }
            if (kind == PROGRESSIVE) {
                return (bits == 8 || bits == 12) && samplingUpTo(MOST_FACTOR);
            }
            return kind == LOSSLESS && bits >= 2 && bits <= 16 && samplingUpTo(1);
        }

        private boolean samplingUpTo(int most) {
            for (int c = 0; c < MOST_COMPONENTS && c < count; c++) {
                if (h[c] < 1 || h[c] > most || v[c] < 1 || v[c] > most) {
                    return false;
                }
            }
            return true;
        }

        /** Measures a picture that can be, and makes all of it 0 and unknown. */
        void lay() {
            int hMax = 1;
            int vMax = 1;
            for (int c = 0; c < MOST_COMPONENTS && c < count; c++) {
                hMax = Math.max(hMax, h[c]);
                vMax = Math.max(vMax, v[c]);
            }
            boolean blocks = kind == PROGRESSIVE;
            mcusAcross = blocks ? partsUp(width, 8 * hMax) : width;
            mcusDown = blocks ? partsUp(height, 8 * vMax) : height;
            for (int c = 0; c < MOST_COMPONENTS && c < count; c++) {
                wide[c] = partsUp(width * h[c], hMax);
                high[c] = partsUp(height * v[c], vMax);
                stride[c] = mcusAcross * h[c];
                rows[c] = mcusDown * v[c];
            }
            Arrays.fill(cells, 0);
            Arrays.fill(known, NONE);
        }

        boolean has(int component) {
            return kind != 0 && component >= 0 && component < count && component < MOST_COMPONENTS;
        }

        boolean allowsInterval(int n) {
            return kind != LOSSLESS || (width > 0 && n % width == 0);
        }

        int figure(int what) {
            switch (what) {
                case 1:
                    return width;
                case 2:
                    return height;
                case 3:
                    return bits;
                case 4:
                    return count;
                case 5:
                    return mcusAcross;
                case 6:
                    return mcusDown;
                default:
                    return NONE;
            }
        }

        int componentFigure(int component, int what) {
            if (!has(component)) {
                return NONE;
            }
            switch (what) {
                case 0:
                    return h[component];
                case 1:
                    return v[component];
                case 2:
                    return wide[component];
                case 3:
                    return high[component];
                case 4:
                    return kind == LOSSLESS ? 0 : stride[component];
                case 5:
                    return kind == LOSSLESS ? 0 : rows[component];
                default:
                    return NONE;
            }
        }

        int coefficientCell(int component, int block, int k) {
            if (kind != PROGRESSIVE || !has(component) || k < 0 || k >= BLOCK) {
                return NONE;
            }
            if (block < 0 || block >= stride[component] * rows[component]) {
                return NONE;
            }
            return component * ROOM + block * BLOCK + k;
        }

        int sampleCell(int component, int x, int y) {
            if (kind != LOSSLESS || !has(component)) {
                return NONE;
            }
            if (x < 0 || x >= wide[component] || y < 0 || y >= high[component]) {
                return NONE;
            }
            return unitCell(component, x, y);
        }

        /** The first cell of a block, or the cell of a sample. */
        int unitCell(int component, int x, int y) {
            if (component < 0 || component >= MOST_COMPONENTS) {
                return 0;
            }
            int unit = y * stride[component] + x;
            return component * ROOM + (kind == LOSSLESS ? unit : unit * BLOCK);
        }

        int shownAcross(int component) {
            if (!has(component)) {
                return 0;
            }
            return kind == LOSSLESS ? wide[component] : partsUp(wide[component], 8);
        }

        int shownDown(int component) {
            if (!has(component)) {
                return 0;
            }
            return kind == LOSSLESS ? high[component] : partsUp(high[component], 8);
        }

        int cell(int i) {
            return i >= 0 && i < cells.length ? cells[i] : 0;
        }

        void store(int i, int value) {
            if (i >= 0 && i < cells.length) {
                cells[i] = value;
            }
        }

        /** Why a scan can't come behind those that made this known: 0, or the number that scan() answers less. */
        int refusal(Scan scan, int[] knownThen) {
            if (!figuresFit(scan)) {
                return 3;
            }
            if (scan.parts > 1 && unitsInMcu(scan) > MOST_IN_MCU) {
                return 4;
            }
            return follows(scan, knownThen) ? 0 : 5;
        }

        private boolean figuresFit(Scan scan) {
            if (kind == LOSSLESS) {
                return scan.ss >= 1 && scan.ss <= 7 && scan.se == 0 && scan.ah == 0 && scan.al >= 0 && scan.al < bits;
            }
            if (scan.al < 0 || scan.al > MOST_SHIFT) {
                return false;
            }
            if (scan.ah != 0 && scan.ah != scan.al + 1) {
                return false;
            }
            if (scan.ss == 0) {
                return scan.se == 0;
            }
            return scan.ss > 0 && scan.ss <= scan.se && scan.se < BLOCK && scan.parts == 1;
        }

        private int unitsInMcu(Scan scan) {
            int units = 0;
            for (int c = 0; c < MOST_COMPONENTS && c < count; c++) {
                if (scan.has(c)) {
                    units += h[c] * v[c];
                }
            }
            return units;
        }

        private boolean follows(Scan scan, int[] knownThen) {
            int wanted = scan.ah == 0 ? NONE : scan.ah;
            int first = firstTold(scan);
            for (int c = 0; c < MOST_COMPONENTS && c < count; c++) {
                if (!scan.has(c)) {
                    continue;
                }
                if (first > 0 && knownThen[c * BLOCK] == NONE) {
                    return false;
                }
                for (int k = first; k <= scan.se && k < BLOCK; k++) {
                    if (knownThen[c * BLOCK + k] != wanted) {
                        return false;
                    }
                }
            }
            return true;
        }

        void mark(Scan scan, int[] knownThen) {
            for (int c = 0; c < MOST_COMPONENTS && c < count; c++) {
                for (int k = firstTold(scan); scan.has(c) && k <= scan.se && k < BLOCK; k++) {
                    knownThen[c * BLOCK + k] = scan.al;
                }
            }
        }

        /** In a lossless scan SS is no place but the predictor. */
        private int firstTold(Scan scan) {
            return kind == LOSSLESS || scan.ss < 0 ? 0 : scan.ss;
        }

        /**
         * The prediction of the sample that has so many ahead of it since the restart; intervals are whole rows, so
         * this number tells the column too. Neighbours are halved first: writing needs it, reading holds them halved.
         */
        int predicted(int i, int since, Scan scan, int halvings) {
            if (since == 0 || width < 1) {
                return 1 << Math.max(0, bits - scan.al - 1);
            }
            int left = cell(i - 1) >> halvings;
            if (since < width) {
                return left;
            }
            int above = cell(i - width) >> halvings;
            if (since % width == 0) {
                return above;
            }
            return combined(scan.ss, left, above, cell(i - width - 1) >> halvings);
        }

        private static int combined(int predictor, int left, int above, int corner) {
            switch (predictor) {
                case 1:
                    return left;
                case 2:
                    return above;
                case 3:
                    return corner;
                case 4:
                    return left + above - corner;
                case 5:
                    return left + ((above - corner) >> 1);
                case 6:
                    return above + ((left - corner) >> 1);
                default:
                    return (left + above) >> 1;
            }
        }

        void moveSamplesUp(Scan scan) {
            for (int c = 0; c < MOST_COMPONENTS && c < count; c++) {
                for (int i = c * ROOM; scan.has(c) && i < (c + 1) * ROOM; i++) {
                    cells[i] = (cells[i] << scan.al) & LOW_WORD;
                }
            }
        }
    }

    /** The blocks or samples of a scan in their order, laid once so that reading and writing go the same way. */
    private static final class Order {
        private final int[] cells = new int[MOST_UNITS];
        private final int[] owners = new int[MOST_IN_MCU];
        private int inMcu;
        int length;

        void lay(Picture picture, Scan scan) {
            length = 0;
            inMcu = 0;
            boolean alone = scan.parts == 1;
            for (int c = 0; c < MOST_COMPONENTS && c < picture.count; c++) {
                if (!scan.has(c)) {
                    continue;
                }
                own(c, alone ? 1 : picture.h[c] * picture.v[c]);
                if (alone) {
                    layAlone(picture, c);
                }
            }
            if (!alone) {
                layTogether(picture, scan);
            }
        }

        private void own(int component, int units) {
            for (int i = 0; i < units && inMcu < MOST_IN_MCU; i++) {
                owners[inMcu] = component;
                inMcu++;
            }
        }

        private void layAlone(Picture picture, int component) {
            int across = picture.shownAcross(component);
            int down = picture.shownDown(component);
            for (int y = 0; y < down; y++) {
                for (int x = 0; x < across; x++) {
                    append(picture.unitCell(component, x, y));
                }
            }
        }

        private void layTogether(Picture picture, Scan scan) {
            for (int row = 0; row < picture.mcusDown; row++) {
                for (int column = 0; column < picture.mcusAcross; column++) {
                    for (int c = 0; c < MOST_COMPONENTS && c < picture.count; c++) {
                        if (scan.has(c)) {
                            layMcu(picture, c, column, row);
                        }
                    }
                }
            }
        }

        private void layMcu(Picture picture, int component, int column, int row) {
            int h = picture.h[component];
            int v = picture.v[component];
            for (int y = 0; y < v; y++) {
                for (int x = 0; x < h; x++) {
                    append(picture.unitCell(component, column * h + x, row * v + y));
                }
            }
        }

        private void append(int cell) {
            if (length < MOST_UNITS) {
                cells[length] = cell;
                length++;
            }
        }

        int cell(int unit) {
            return unit >= 0 && unit < length ? cells[unit] : 0;
        }

        int owner(int unit) {
            return unit >= 0 && inMcu > 0 && inMcu <= MOST_IN_MCU ? owners[unit % inMcu] : 0;
        }

        /** Units from one restart to the next; all of them, where no interval is. */
        int span(int interval) {
            return interval > 0 && inMcu > 0 ? interval * inMcu : Math.max(1, length);
        }

        int mcusIn(int units) {
            return inMcu > 0 ? units / inMcu : 0;
        }
    }

    /** A Huffman table as a stream tells it. */
    private static final class Table {
        private static final int LONGEST = 16;

        final int[] counts = new int[LONGEST + 1];
        final int[] symbols = new int[256];
        boolean told;
    }

    /**
     * The bytes to read, bit by bit too, and the first fault met in them. Behind a fault all bits are 0 and no other
     * fault counts, so that callers need not look behind every bit: what they make then is never shown.
     */
    private static final class Tape {
        final byte[] bytes = new byte[MOST_ON_TAPE];
        int length;
        /** The next byte that isn't taken yet. */
        int at;
        private int held;
        private int bitsLeft;
        int fault;
        int faultAt;

        void append(int four) {
            for (int shift = 24; shift >= 0 && length < MOST_ON_TAPE; shift -= 8) {
                bytes[length] = (byte) (four >> shift);
                length++;
            }
        }

        void rewind() {
            at = 0;
            bitsLeft = 0;
            fault = 0;
            faultAt = NONE;
        }

        void fail(int kind, int place) {
            if (fault == 0) {
                fault = kind;
                faultAt = place;
            }
        }

        boolean failed() {
            return fault != 0;
        }

        boolean lacks(int place) {
            if (place < length) {
                return false;
            }
            fail(BYTES_END, length);
            return true;
        }

        int byteAt(int place) {
            return place >= 0 && place < length && place < MOST_ON_TAPE ? bytes[place] & 255 : 0;
        }

        int pairAt(int place) {
            return byteAt(place) << 8 | byteAt(place + 1);
        }

        int bit() {
            if (fault != 0) {
                return 0;
            }
            if (bitsLeft == 0) {
                int next = at < length ? bytes[at] & 255 : 0;
                int taken = next == 255 ? 2 : 1;
                if (at + taken > length) {
                    fault = BYTES_END;
                    faultAt = length;
                    return 0;
                }
                if (taken == 2 && bytes[at + 1] != 0) {
                    fault = BAD_DATA;
                    faultAt = at;
                    return 0;
                }
                held = next;
                at += taken;
                bitsLeft = 8;
            }
            bitsLeft--;
            return held >> bitsLeft & 1;
        }

        int bits(int n) {
            int value = 0;
            for (int i = 0; i < n; i++) {
                value = value << 1 | bit();
            }
            return value;
        }

        /** Codes of one length stand behind one another, and the next length goes on behind their last. */
        int symbol(Table table) {
            int code = 0;
            int first = 0;
            int slot = 0;
            for (int size = 1; size <= Table.LONGEST && fault == 0; size++) {
                code = code << 1 | bit();
                first = first << 1;
                int among = code - first;
                int count = table.counts[size];
                if (fault == 0 && among >= 0 && among < count && slot + among < table.symbols.length) {
                    return table.symbols[slot + among];
                }
                slot += count;
                first += count;
            }
            fail(BAD_DATA, at);
            return 0;
        }

        void dropBits() {
            bitsLeft = 0;
        }

        void passRestart(int number) {
            bitsLeft = 0;
            if (fault != 0 || lacks(at)) {
                return;
            }
            if (byteAt(at) != 255) {
                fail(NO_RESTART, at);
                return;
            }
            if (lacks(at + 1)) {
                return;
            }
            if (byteAt(at + 1) != RST + number) {
                fail(NO_RESTART, at);
                return;
            }
            at += 2;
        }
    }

    /** Reads the data of one scan into a picture. */
    private static final class ScanReader {
        private final Tape tape;
        private final Order order;
        private final int[] dcAhead = new int[MOST_COMPONENTS];
        private Picture picture;
        private Scan scan;
        private Table[] tables;
        /** Units yet to come up to the next restart or the end, the one being read counted. */
        private int unitsLeft;
        /** Blocks whose bands are ended by a run, the one being read counted. */
        private int run;

        ScanReader(Tape tape, Order order) {
            this.tape = tape;
            this.order = order;
        }

        void readData(Picture toFill, Scan told, Table[] toldTables, int interval) {
            picture = toFill;
            scan = told;
            tables = toldTables;
            order.lay(toFill, told);
            int span = order.span(interval);
            int way = told.way(toFill.kind);
            for (int unit = 0; unit < order.length && !tape.failed(); unit++) {
                int since = unit % span;
                if (since == 0) {
                    beginAnew(unit / span);
                }
                unitsLeft = Math.min(span - since, order.length - unit);
                readUnit(way, order.cell(unit), order.owner(unit), order.mcusIn(since));
            }
            tape.dropBits();
            if (way == SAMPLES) {
                toFill.moveSamplesUp(told);
            }
        }

        private void beginAnew(int restarts) {
            if (restarts > 0) {
                tape.passRestart(restarts - 1 & 7);
            }
            Arrays.fill(dcAhead, 0);
            run = 0;
        }

        private void readUnit(int way, int cell, int owner, int since) {
            if (owner < 0 || owner >= MOST_COMPONENTS) {
                return;
            }
            switch (way) {
                case DC_FIRST:
                    readDc(cell, owner);
                    break;
                case DC_AGAIN:
                    picture.store(cell, picture.cell(cell) | tape.bit() << scan.al);
                    break;
                case BAND_FIRST:
                    readBand(cell, acTable(owner));
                    break;
                case BAND_AGAIN:
                    readBandAgain(cell, acTable(owner));
                    break;
                default:
                    readSample(cell, since, dcTable(owner));
                    break;
            }
        }

        private Table dcTable(int owner) {
            return tables[scan.dcTable[owner] & 3];
        }

        private Table acTable(int owner) {
            return tables[4 + (scan.acTable[owner] & 3)];
        }

        private void readDc(int cell, int owner) {
            int size = tape.symbol(dcTable(owner));
            if (size > MOST_SIZE) {
                tape.fail(BAD_DATA, tape.at);
                return;
            }
            dcAhead[owner] += extended(tape.bits(size), size);
            picture.store(cell, dcAhead[owner] << scan.al);
        }

        private void readSample(int cell, int since, Table table) {
            int size = tape.symbol(table);
            if (size > MOST_SIZE + 1) {
                tape.fail(BAD_DATA, tape.at);
                return;
            }
            int difference = size > MOST_SIZE ? HALF_WORD : extended(tape.bits(size), size);
            picture.store(cell, (picture.predicted(cell, since, scan, 0) + difference) & LOW_WORD);
        }

        private void readBand(int cell, Table table) {
            int k = scan.ss;
            while (k <= scan.se && run == 0 && !tape.failed()) {
                int symbol = tape.symbol(table);
                int zeros = symbol >> 4;
                int size = symbol & 15;
                if (size == 0 && zeros < 15) {
                    beginRun((1 << zeros) + tape.bits(zeros));
                    break;
                }
                k += zeros;
                if (k > scan.se) {
                    tape.fail(BAD_DATA, tape.at);
                    return;
                }
                picture.store(cell + k, extended(tape.bits(size), size) << scan.al);
                k++;
            }
            if (run > 0) {
                run--;
            }
        }

        private void beginRun(int blocks) {
            run = blocks;
            if (blocks > unitsLeft) {
                tape.fail(BAD_DATA, tape.at);
            }
        }

        private void readBandAgain(int cell, Table table) {
            int k = scan.ss;
            while (k <= scan.se && run == 0 && !tape.failed()) {
                int symbol = tape.symbol(table);
                int zeros = symbol >> 4;
                int size = symbol & 15;
                if (size > 1) {
                    tape.fail(BAD_DATA, tape.at);
                    return;
                }
                if (size == 0 && zeros < 15) {
                    beginRun((1 << zeros) + tape.bits(zeros));
                    break;
                }
                int fresh = size == 0 ? 0 : tape.bit() == 1 ? 1 : -1;
                k = correctUpTo(cell, k, zeros);
                if (k > scan.se) {
                    tape.fail(BAD_DATA, tape.at);
                    return;
                }
                picture.store(cell + k, fresh << scan.al);
                k++;
            }
            if (run > 0) {
                correctUpTo(cell, k, BLOCK);
                run--;
            }
        }

        /** Corrects what isn't 0 up to the zero that has so many ahead of it: its place, or one behind SE. */
        private int correctUpTo(int cell, int from, int zeros) {
            int left = zeros;
            for (int k = from; k <= scan.se; k++) {
                int value = picture.cell(cell + k);
                if (value == 0) {
                    if (left == 0) {
                        return k;
                    }
                    left--;
                } else if (tape.bit() == 1) {
                    int step = 1 << scan.al;
                    picture.store(cell + k, value < 0 ? value - step : value + step);
                }
            }
            return scan.se + 1;
        }
    }

    /** Reads a stream, segment by segment. */
    private static final class StreamReader {
        private final Tape tape;
        private final ScanReader data;
        private final Scan scan = new Scan();
        private final Table[] tables = new Table[8];
        private final int[] numbers = new int[MOST_COMPONENTS];
        private Picture picture;
        private int interval;
        private int codeAt;
        private int bodyAt;
        private int bodyEnd;
        private boolean behindData;
        private boolean dataDue;
        private boolean ended;

        StreamReader(Tape tape, ScanReader data) {
            this.tape = tape;
            this.data = data;
            for (int i = 0; i < 8; i++) {
                tables[i] = new Table();
            }
        }

        /** How many scans there are; where the tape tells a fault, the picture is not whole. */
        int readStream(Picture toFill) {
            begin(toFill);
            int scans = 0;
            for (int i = 0; i < MOST_ON_TAPE && !ended && !tape.failed(); i++) {
                readSegment();
                if (dataDue && !tape.failed()) {
                    data.readData(picture, scan, tables, interval);
                    scans++;
                    dataDue = false;
                    behindData = true;
                }
            }
            return scans;
        }

        private void begin(Picture toFill) {
            picture = toFill;
            picture.kind = 0;
            interval = 0;
            behindData = false;
            dataDue = false;
            ended = false;
            for (int i = 0; i < 8; i++) {
                tables[i].told = false;
            }
            expectFirst(0, 255);
            expectFirst(1, SOI);
            tape.at = 2;
        }

        private void expectFirst(int place, int value) {
            if (!tape.failed() && !tape.lacks(place) && tape.byteAt(place) != value) {
                tape.fail(NO_SEGMENT, place);
            }
        }

        private void readSegment() {
            int code = nextCode();
            behindData = false;
            if (tape.failed()) {
                return;
            }
            if (code == EOI) {
                readEnd();
                return;
            }
            if (!isSegment(code)) {
                tape.fail(NO_SEGMENT, codeAt);
                return;
            }
            measure();
            if (tape.failed()) {
                return;
            }
            tape.at = bodyEnd;
            switch (code) {
                case SOF_PROGRESSIVE:
                    readFrame(PROGRESSIVE);
                    break;
                case SOF_LOSSLESS:
                    readFrame(LOSSLESS);
                    break;
                case DHT:
                    readTables();
                    break;
                case DRI:
                    readInterval();
                    break;
                case SOS:
                    readScanHead();
                    break;
                default:
                    break;
            }
        }

        private int nextCode() {
            int start = tape.at;
            if (tape.lacks(start)) {
                return 0;
            }
            if (tape.byteAt(start) != 255) {
                tape.fail(behindData ? STRAY_BYTES : NO_SEGMENT, start);
                return 0;
            }
            codeAt = start + 1;
            while (codeAt < tape.length && tape.byteAt(codeAt) == 255) {
                codeAt++;
            }
            if (tape.lacks(codeAt)) {
                return 0;
            }
            int code = tape.byteAt(codeAt);
            if (behindData && (code == 0 || (code >= RST && code < RST + 8))) {
                tape.fail(STRAY_BYTES, start);
            }
            return code;
        }

        private static boolean isSegment(int code) {
            if (code >= APP_FIRST && code <= APP_LAST) {
                return true;
            }
            return code == SOF_PROGRESSIVE || code == SOF_LOSSLESS || code == DHT || code == SOS || code == DRI
                || code == DQT || code == COM;
        }

        private void readEnd() {
            ended = true;
            if (picture.kind == 0) {
                tape.fail(STRAY_BYTES, codeAt);
            } else if (codeAt + 1 < tape.length) {
                tape.fail(STRAY_BYTES, codeAt + 1);
            }
        }

        private void measure() {
            if (tape.lacks(codeAt + 2)) {
                return;
            }
            int length = tape.pairAt(codeAt + 1);
            bodyAt = codeAt + 3;
            bodyEnd = codeAt + 1 + length;
            if (length < 2 || bodyEnd > tape.length) {
                refuse(BAD_SEGMENT);
            }
        }

        private void refuse(int kind) {
            tape.fail(kind, codeAt);
        }

        private void readInterval() {
            if (bodyEnd - bodyAt != 2) {
                refuse(BAD_SEGMENT);
                return;
            }
            interval = tape.pairAt(bodyAt);
        }

        private void readFrame(int kind) {
            int count = tape.byteAt(bodyAt + 5);
            if (picture.kind != 0 || bodyEnd - bodyAt < 6 || bodyEnd - bodyAt != 6 + 3 * count) {
                refuse(BAD_SEGMENT);
                return;
            }
            int height = tape.pairAt(bodyAt + 1);
            int width = tape.pairAt(bodyAt + 3);
            picture.describe(kind, width, height, tape.byteAt(bodyAt), count);
            for (int c = 0; c < count && c < MOST_COMPONENTS; c++) {
                int place = bodyAt + 6 + 3 * c;
                numbers[c] = tape.byteAt(place);
                int factors = tape.byteAt(place + 1);
                picture.sampling(c, factors >> 4, factors & 15);
            }
            if (!picture.canBe() || numberTwice(count)) {
                refuse(BAD_SEGMENT);
                return;
            }
            picture.lay();
        }

        private boolean numberTwice(int count) {
            for (int c = 0; c < count && c < MOST_COMPONENTS; c++) {
                for (int earlier = 0; earlier < c; earlier++) {
                    if (numbers[earlier] == numbers[c]) {
                        return true;
                    }
                }
            }
            return false;
        }

        private void readTables() {
            int place = bodyAt;
            while (place < bodyEnd && !tape.failed()) {
                int head = tape.byteAt(place);
                if (head >> 4 > 1 || (head & 15) > 3 || bodyEnd - place < 17) {
                    refuse(BAD_SEGMENT);
                    return;
                }
                int total = symbolsOf(place);
                if (total == NONE) {
                    tape.fail(BAD_TABLE, place);
                    return;
                }
                if (bodyEnd - place < 17 + total) {
                    refuse(BAD_SEGMENT);
                    return;
                }
                keepTable(tables[(head >> 4 & 1) * 4 + (head & 3)], place, total);
                place += 17 + total;
            }
        }

        /** How many symbols the table at this place has; NONE if it can't have them. */
        private int symbolsOf(int place) {
            int total = 0;
            int codesLeft = 1;
            for (int size = 1; size <= Table.LONGEST; size++) {
                int count = tape.byteAt(place + size);
                total += count;
                codesLeft = codesLeft * 2 - count;
                if (codesLeft < 0 || total > 256) {
                    return NONE;
                }
            }
            return total;
        }

        private void keepTable(Table table, int place, int total) {
            for (int size = 1; size <= Table.LONGEST; size++) {
                table.counts[size] = tape.byteAt(place + size);
            }
            for (int i = 0; i < total && i < 256; i++) {
                table.symbols[i] = tape.byteAt(place + 17 + i);
            }
            table.told = true;
        }

        private void readScanHead() {
            int size = bodyEnd - bodyAt;
            int parts = tape.byteAt(bodyAt);
            if (size < 1 || size != 4 + 2 * parts) {
                refuse(BAD_SEGMENT);
                return;
            }
            if (picture.kind == 0 || parts < 1 || parts > MOST_COMPONENTS) {
                refuse(BAD_SCAN);
                return;
            }
            int mask = readParts(parts);
            int place = bodyAt + 1 + 2 * parts;
            int shifts = tape.byteAt(place + 2);
            scan.tell(mask, tape.byteAt(place), tape.byteAt(place + 1), shifts >> 4, shifts & 15);
            if (mask == 0 || picture.refusal(scan, picture.known) != 0 || lacksTable()) {
                refuse(BAD_SCAN);
                return;
            }
            if (!picture.allowsInterval(interval)) {
                refuse(BAD_SCAN);
                return;
            }
            picture.mark(scan, picture.known);
            dataDue = true;
        }

        /** The components as bits; 0 where they or their tables can't be. */
        private int readParts(int parts) {
            int mask = 0;
            int last = -1;
            for (int i = 0; i < parts; i++) {
                int c = componentOf(tape.byteAt(bodyAt + 1 + 2 * i));
                int chosen = tape.byteAt(bodyAt + 2 + 2 * i);
                if (c <= last || c >= MOST_COMPONENTS || chosen >> 4 > 3 || (chosen & 15) > 3) {
                    return 0;
                }
                scan.dcTable[c] = chosen >> 4;
                scan.acTable[c] = chosen & 15;
                mask |= 1 << c;
                last = c;
            }
            return mask;
        }

        private int componentOf(int number) {
            for (int c = 0; c < picture.count && c < MOST_COMPONENTS; c++) {
                if (numbers[c] == number) {
                    return c;
                }
            }
            return NONE;
        }

        private boolean lacksTable() {
            int way = scan.way(picture.kind);
            boolean needsDc = way == DC_FIRST || way == SAMPLES;
            boolean needsAc = way == BAND_FIRST || way == BAND_AGAIN;
            for (int c = 0; c < MOST_COMPONENTS; c++) {
                if (!scan.has(c)) {
                    continue;
                }
                if (needsDc && !tables[scan.dcTable[c] & 3].told) {
                    return true;
                }
                if (needsAc && !tables[4 + (scan.acTable[c] & 3)].told) {
                    return true;
                }
            }
            return false;
        }
    }

    /** The bytes that are written; beyond the most they are only counted. */
    private static final class Sink {
        final byte[] bytes = new byte[MOST_WRITTEN];
        int length;
        private int held;
        private int filled;

        void empty() {
            length = 0;
            held = 0;
            filled = 0;
        }

        void append(int value) {
            if (length >= 0 && length < MOST_WRITTEN) {
                bytes[length] = (byte) value;
            }
            length++;
        }

        void pair(int value) {
            append(value >> 8);
            append(value);
        }

        void marker(int code) {
            append(255);
            append(code);
        }

        /** Sixteen bits at once are the most, and seven may be held from before. */
        void bits(int value, int n) {
            held = held << n | value & (1 << n) - 1;
            filled += n;
            for (; filled >= 8; filled -= 8) {
                int whole = held >> filled - 8 & 255;
                append(whole);
                if (whole == 255) {
                    append(0);
                }
            }
            held = held & (1 << filled) - 1;
        }

        void fillUp() {
            if (filled > 0) {
                bits(255, 8 - filled);
            }
        }
    }

    /** Writes the data of one scan of a picture. */
    private static final class ScanWriter {
        private final Order order;
        private final int[] dcAhead = new int[MOST_COMPONENTS];
        /** Correction bits that wait for the code of the EOB run they belong to. */
        private final int[] waiting = new int[MOST_WAITING + BLOCK];
        /** Correction bits of this block that wait for its next code. */
        private final int[] fresh = new int[BLOCK];
        private Picture picture;
        private Scan scan;
        private Sink sink;
        private int waitingBits;
        private int freshBits;
        private int run;
        private boolean sizesFit;

        ScanWriter(Order order) {
            this.order = order;
        }

        /** Whether all sizes could be told. */
        boolean writeData(Picture toTell, Scan asked, int interval, Sink into) {
            picture = toTell;
            scan = asked;
            sink = into;
            sizesFit = true;
            order.lay(toTell, asked);
            int span = order.span(interval);
            int way = asked.way(toTell.kind);
            for (int unit = 0; unit < order.length && sizesFit; unit++) {
                int since = unit % span;
                if (since == 0) {
                    beginAnew(unit / span);
                }
                writeUnit(way, order.cell(unit), order.owner(unit), order.mcusIn(since));
            }
            endRun();
            sink.fillUp();
            return sizesFit;
        }

        private void beginAnew(int restarts) {
            if (restarts > 0) {
                endRun();
                sink.fillUp();
                sink.marker(RST + (restarts - 1 & 7));
            }
            Arrays.fill(dcAhead, 0);
            run = 0;
            waitingBits = 0;
        }

        private void writeUnit(int way, int cell, int owner, int since) {
            if (owner < 0 || owner >= MOST_COMPONENTS) {
                return;
            }
            switch (way) {
                case DC_FIRST:
                    writeDc(cell, owner);
                    break;
                case DC_AGAIN:
                    sink.bits(picture.cell(cell) >> scan.al, 1);
                    break;
                case BAND_FIRST:
                    writeBand(cell);
                    break;
                case BAND_AGAIN:
                    writeBandAgain(cell);
                    break;
                default:
                    writeSample(cell, since);
                    break;
            }
        }

        /** The nine-bit codes go on behind the 128 of eight bits: at 256. */
        private static int acCode(int symbol) {
            return symbol < 128 ? symbol : symbol + 128;
        }

        private static int acBits(int symbol) {
            return symbol < 128 ? 8 : 9;
        }

        private void number(int value, int size) {
            sink.bits(value < 0 ? value - 1 : value, size);
        }

        private void writeDc(int cell, int owner) {
            int halved = picture.cell(cell) >> scan.al;
            int difference = halved - dcAhead[owner];
            int size = sizeOf(difference);
            if (size > MOST_SIZE) {
                sizesFit = false;
                return;
            }
            dcAhead[owner] = halved;
            sink.bits(size, DC_BITS);
            number(difference, size);
        }

        private void writeSample(int cell, int since) {
            int halved = picture.cell(cell) >> scan.al;
            int difference = (halved - picture.predicted(cell, since, scan, scan.al)) & LOW_WORD;
            if (difference == HALF_WORD) {
                sink.bits(MOST_SIZE + 1, DC_BITS);
                return;
            }
            if (difference > HALF_WORD) {
                difference -= LOW_WORD + 1;
            }
            int size = sizeOf(difference);
            sink.bits(size, DC_BITS);
            number(difference, size);
        }

        private int halvedSize(int value) {
            return (value < 0 ? -value : value) >>> scan.al;
        }

        private void writeBand(int cell) {
            int zeros = 0;
            for (int k = scan.ss; k <= scan.se; k++) {
                int value = picture.cell(cell + k);
                int halved = halvedSize(value);
                if (halved == 0) {
                    zeros++;
                    continue;
                }
                int size = sizeOf(halved);
                if (size > MOST_SIZE) {
                    sizesFit = false;
                    return;
                }
                endRun();
                for (; zeros > 15; zeros -= 16) {
                    sink.bits(acCode(SIXTEEN_ZEROS), acBits(SIXTEEN_ZEROS));
                }
                sink.bits(acCode(zeros << 4 | size), acBits(zeros << 4 | size));
                number(value < 0 ? -halved : halved, size);
                zeros = 0;
            }
            if (zeros > 0) {
                run++;
            }
        }

        /** A component has 25 blocks to show at the most, so no run comes near the greatest that can be told. */
        private void endRun() {
            if (run > 0) {
                int size = sizeOf(run) - 1;
                sink.bits(acCode(size << 4), acBits(size << 4));
                sink.bits(run, size);
                run = 0;
            }
            for (int i = 0; i < waitingBits && i < waiting.length; i++) {
                sink.bits(waiting[i], 1);
            }
            waitingBits = 0;
        }

        private void tellFresh() {
            for (int i = 0; i < freshBits && i < BLOCK; i++) {
                sink.bits(fresh[i], 1);
            }
            freshBits = 0;
        }

        /** The last place where something stops being 0: zeros behind it go into a run, never into sixteens. */
        private int lastNew(int cell) {
            int last = 0;
            for (int k = scan.ss; k <= scan.se; k++) {
                if (halvedSize(picture.cell(cell + k)) == 1) {
                    last = k;
                }
            }
            return last;
        }

        private void writeBandAgain(int cell) {
            int last = lastNew(cell);
            int zeros = 0;
            freshBits = 0;
            for (int k = scan.ss; k <= scan.se; k++) {
                int value = picture.cell(cell + k);
                int halved = halvedSize(value);
                if (halved == 0) {
                    zeros++;
                    continue;
                }
                for (; zeros > 15 && k <= last; zeros -= 16) {
                    endRun();
                    sink.bits(acCode(SIXTEEN_ZEROS), acBits(SIXTEEN_ZEROS));
                    tellFresh();
                }
                if (halved == 1) {
                    endRun();
                    sink.bits(acCode(zeros << 4 | 1), acBits(zeros << 4 | 1));
                    sink.bits(value < 0 ? 0 : 1, 1);
                    tellFresh();
                    zeros = 0;
                } else if (freshBits < BLOCK) {
                    fresh[freshBits] = halved & 1;
                    freshBits++;
                }
            }
            if (zeros > 0 || freshBits > 0) {
                keepFresh();
                run++;
            }
            if (waitingBits > MOST_WAITING) {
                endRun();
            }
        }

        private void keepFresh() {
            for (int i = 0; i < freshBits && i < BLOCK && waitingBits < waiting.length; i++) {
                waiting[waitingBits] = fresh[i];
                waitingBits++;
            }
            freshBits = 0;
        }
    }

    /** Writes what stands around the data. */
    private static final class StreamWriter {
        static void writeHead(Picture picture, int interval, Sink sink) {
            sink.marker(SOI);
            writeFrame(picture, sink);
            writeTables(picture.kind == PROGRESSIVE, sink);
            if (interval > 0) {
                sink.marker(DRI);
                sink.pair(4);
                sink.pair(interval);
            }
        }

        private static void writeFrame(Picture picture, Sink sink) {
            sink.marker(picture.kind == PROGRESSIVE ? SOF_PROGRESSIVE : SOF_LOSSLESS);
            sink.pair(8 + 3 * picture.count);
            sink.append(picture.bits);
            sink.pair(picture.height);
            sink.pair(picture.width);
            sink.append(picture.count);
            for (int c = 0; c < MOST_COMPONENTS && c < picture.count; c++) {
                sink.append(c + 1);
                sink.append(picture.h[c] << 4 | picture.v[c]);
                sink.append(0);
            }
        }

        private static void writeTables(boolean withAc, Sink sink) {
            sink.marker(DHT);
            sink.pair(withAc ? 2 + 17 + 17 + 17 + 256 : 2 + 17 + 17);
            sink.append(0);
            for (int size = 1; size <= Table.LONGEST; size++) {
                sink.append(size == 5 ? 17 : 0);
            }
            writeSymbols(17, sink);
            if (withAc) {
                sink.append(0x10);
                for (int size = 1; size <= Table.LONGEST; size++) {
                    sink.append(size == 8 || size == 9 ? 128 : 0);
                }
                writeSymbols(256, sink);
            }
        }

        private static void writeSymbols(int count, Sink sink) {
            for (int i = 0; i < count; i++) {
                sink.append(i);
            }
        }

        static void writeScanHead(Picture picture, Scan scan, Sink sink) {
            sink.marker(SOS);
            sink.pair(6 + 2 * scan.parts);
            sink.append(scan.parts);
            for (int c = 0; c < MOST_COMPONENTS && c < picture.count; c++) {
                if (scan.has(c)) {
                    sink.append(c + 1);
                    sink.append(0);
                }
            }
            sink.append(scan.ss);
            sink.append(scan.se);
            sink.append(scan.ah << 4 | scan.al);
        }
    }
}
