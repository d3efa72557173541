import java.util.ArrayList;
import java.util.Arrays;
import java.util.List;

/**
 * Promises 8, 11, 13 to 19 by a second hand: streams that grow scan by scan with tables of every shape and data by
 * chance, damaged ones too, are read as the oracle reads them (the same fault at the same place, or the same picture),
 * and what is read is written as the oracle writes it. The numbers look random but are always the same.
 */
final class OracleTest {
    private static final int STREAMS = 1000;
    private static final int[] HEADS = {0, 1, 2, 0xC2, 0xC3, 0xC4, 0xD0, 0xD7, 0xD9, 0xDA, 0xDD, 0xFE, 0xFF};

    private static long seed = 20261117;
    private static final int[] FAULTS = new int[9];
    private static int taken = 0;
    private static int writes = 0;
    private static int refusals = 0;

    public static void main(String[] args) {
        for (int i = 0; i < STREAMS; i++) {
            grow(i);
        }
        for (int kind = 1; kind <= 8; kind++) {
            Due.yes("fault " + kind + " was met " + FAULTS[kind] + " times", FAULTS[kind] >= 100);
        }
        Due.yes("taken " + taken + " times", taken > 1000);
        Due.yes("written " + writes + " times", writes > 500);
        Due.yes("refused " + refusals + " times", refusals > 3);
        Due.end();
    }

    private static int below(int n) {
        seed = seed * 6364136223846793005L + 1442695040888963407L;
        return (int) ((seed >>> 33) % n);
    }

    private static int one(int... values) {
        return values[below(values.length)];
    }

    /** What the oracle's reading of these bytes is; the desk's has to be the same. */
    private static Object read(ScanDesk desk, byte[] bytes) {
        int answer = new Stream().all(bytes).readBy(desk);
        try {
            Oracle o = Oracle.read(bytes);
            Due.is("scans", answer, o.scans);
            Due.is("place", desk.errorAt(), -1);
            same(desk, o);
            taken++;
            return o;
        } catch (Oracle.Fault fault) {
            Due.is("fault", answer, -fault.kind);
            Due.is("its place", desk.errorAt(), fault.place);
            FAULTS[fault.kind]++;
            return fault;
        }
    }

    private static void same(ScanDesk d, Oracle o) {
        int[] due = {o.kind, o.width, o.height, o.bits, o.count, o.mcus(), o.mcuRows(), 0, o.scans};
        for (int what = 0; what < due.length; what++) {
            Due.is("look(" + what + ")", d.look(what), due[what]);
        }
        for (int c = 0; c < o.count; c++) {
            int across = o.kind == 2 ? 0 : o.h[c] * o.mcus();
            int down = o.kind == 2 ? 0 : o.v[c] * o.mcuRows();
            int[] figures = {o.h[c], o.v[c], o.x(c), o.y(c), across, down};
            for (int what = 0; what < figures.length; what++) {
                Due.is("component(" + c + ", " + what + ")", d.component(c, what), figures[what]);
            }
            for (int k = 0; k < 64; k++) {
                Due.is("known(" + c + ", " + k + ")", d.known(c, k), o.known[c][k]);
            }
            for (int i = 0; i < across * down * 64; i++) {
                Due.is("coefficient", d.coefficient(c, i / 64, i % 64),
                    o.blocks[c][i / 64 / across][i / 64 % across][i % 64]);
            }
            for (int i = 0; o.kind == 2 && i < o.width * o.height; i++) {
                Due.is("sample", d.sample(c, i % o.width, i / o.width), o.samples[c][i / o.width][i % o.width]);
            }
        }
    }

    private static void grow(int round) {
        ScanDesk desk = new ScanDesk();
        boolean lossless = round % 3 == 0;
        int count = one(1, 1, 2, 3);
        int[] factors = new int[count];
        for (int c = 0; c < count; c++) {
            factors[c] = lossless ? 0x11 : one(0x11, 0x11, 0x12, 0x21, 0x22);
        }
        int width = 1 + below(lossless ? 9 : 40);
        int height = 1 + below(lossless ? 9 : 40);
        int bits = lossless ? 2 + below(15) : one(8, 12);
        Stream s = Stream.begun().frame(lossless ? 0xC3 : 0xC2, bits, width, height, factors);
        byte[] all = s.all();
        boolean[] told = new boolean[8];
        int[] known = new int[3 * 64];
        Arrays.fill(known, -1);
        for (int i = 0; i < 12 && all.length < 4000; i++) {
            Stream next = new Stream().all(all);
            between(next, lossless, width, told);
            byte[] grown = scan(desk, next, lossless, bits, count, known, told);
            all = grown == null ? all : grown;
        }
        byte[] whole = new Stream().all(all).ended().all();
        Object o = read(desk, whole);
        for (int i = 0; i < 20; i++) {
            damage(desk, whole);
        }
        if (o instanceof Oracle picture) {
            Due.is("read again", new Stream().all(whole).readBy(desk), picture.scans);
            for (int i = 0; i < 4; i++) {
                write(desk, picture);
            }
        }
    }

    private static void between(Stream s, boolean lossless, int width, boolean[] told) {
        int n = 1 + below(3);
        for (int i = 0; i < n; i++) {
            int number = below(4);
            boolean ac = !lossless && below(2) == 0;
            told[(ac ? 4 : 0) + number] = true;
            table(s, ac, number, lossless);
        }
        if (below(4) == 0) {
            int interval = lossless ? width * below(4) + (below(12) == 0 ? 1 : 0) : below(7);
            s.segment(0xDD, interval >> 8, interval & 255);
        }
        if (below(8) == 0) {
            s.segment(one(0xDB, 0xE0, 0xE9, 0xEF, 0xFE), 255, 0xD9);
        }
        if (below(8) == 0) {
            s.bytes(255, 255);
        }
    }

    /** A table of random lengths; its symbols are mostly such as can be read. */
    private static void table(Stream s, boolean ac, int number, boolean lossless) {
        int[] counts = new int[17];
        int left = 1;
        int total = 0;
        for (int size = 1; size <= 16; size++) {
            left *= 2;
            int most = Math.min(Math.min(left, 255), (ac ? 40 : 18) - total);
            counts[size] = below(3) == 0 || size > 8 ? below(most + 1) : 0;
            left -= counts[size];
            total += counts[size];
        }
        int[] body = new int[17 + total];
        body[0] = (ac ? 16 : 0) + number;
        System.arraycopy(counts, 1, body, 1, 16);
        for (int i = 0; i < total; i++) {
            int dc = below(20) == 0 ? below(19) : below(lossless ? 17 : 12);
            int band = one(0, 0x10, 0x20, 0x01, 0x11, 0x21, 0x01, 0xF0, 0x31, 0x02, 0x13, below(256));
            body[17 + i] = ac ? band : dc;
        }
        s.segment(0xC4, body);
    }

    /** The stream with one more scan, if one can come; its data are random, cut where the oracle says they end. */
    private static byte[] scan(ScanDesk desk, Stream s, boolean lossless, int bits, int count, int[] known,
        boolean[] told) {
        int ss = lossless ? 1 + below(7) : one(0, 0, 1 + below(63));
        int se = lossless || ss == 0 ? 0 : ss + below(64 - ss);
        int parts = lossless || ss == 0 ? 1 + below((1 << count) - 1) : 1 << below(count);
        int al = below(lossless ? bits : 4);
        int first = Integer.numberOfTrailingZeros(parts);
        int then = lossless ? -1 : known[64 * first + ss];
        int ah = then > 0 && !lossless ? then : 0;
        al = ah > 0 ? ah - 1 : al;
        int[] body = new int[4 + 2 * Integer.bitCount(parts)];
        int at = 0;
        body[at++] = Integer.bitCount(parts);
        for (int c = 0; c < count; c++) {
            if ((parts & 1 << c) != 0) {
                body[at++] = 10 * (c + 1);
                body[at++] = 16 * tableOf(told, 0) + tableOf(told, 4);
            }
        }
        body[at++] = ss;
        body[at++] = se;
        body[at] = 16 * ah + al;
        s.segment(0xDA, body);
        byte[] done = data(desk, s.all());
        for (int c = 0; done != null && c < count; c++) {
            for (int k = lossless ? 0 : ss; (parts & 1 << c) != 0 && k <= se; k++) {
                known[64 * c + k] = al;
            }
        }
        return done;
    }

    private static int tableOf(boolean[] told, int from) {
        int start = below(4);
        for (int i = 0; i < 4 && below(40) > 0; i++) {
            if (told[from + (start + i) % 4]) {
                return (start + i) % 4;
            }
        }
        return start;
    }

    private static byte[] data(ScanDesk desk, byte[] head) {
        byte[] all = head;
        for (int tries = 0; tries < 40 && all.length < 4500; tries++) {
            Stream s = new Stream().all(all);
            int n = 1 + below(60);
            for (int i = 0; i < n; i++) {
                int value = below(20) == 0 ? 255 : below(4) == 0 ? 0 : below(256);
                s.bytes(value);
                if (value == 255) {
                    s.bytes(0);
                }
            }
            Object result = read(desk, s.all());
            if (!(result instanceof Oracle.Fault fault) || fault.kind < 6 && fault.kind != 1) {
                return null;
            }
            if (fault.kind == 8 && fault.place > head.length) {
                return Arrays.copyOf(s.all(), fault.place);
            }
            if (fault.kind == 1) {
                all = ranOut(desk, s.all());
                if (all == null) {
                    return s.all();
                }
            } else if (fault.kind == 7) {
                all = restarted(desk, Arrays.copyOf(s.all(), fault.place));
            } else {
                all = shortened(all, head.length);
            }
        }
        return null;
    }

    /** Null where the data are whole and only the rest lacks. */
    private static byte[] ranOut(ScanDesk desk, byte[] all) {
        Object result = read(desk, new Stream().all(all).bytes(1).all());
        return result instanceof Oracle.Fault fault && fault.kind == 8 && fault.place == all.length ? null : all;
    }

    private static byte[] restarted(ScanDesk desk, byte[] all) {
        for (int m = 0; m < 8; m++) {
            byte[] next = new Stream().all(all).bytes(255, 0xD0 + m).all();
            if (read(desk, next) instanceof Oracle.Fault fault && fault.kind != 7) {
                return next;
            }
        }
        return all;
    }

    /** Without some of its last bytes, but never within FF 00. */
    private static byte[] shortened(byte[] all, int least) {
        int length = Math.max(least, all.length - below(30));
        return length > least && all[length - 1] == -1 ? Arrays.copyOf(all, length - 1) : Arrays.copyOf(all, length);
    }

    private static void damage(ScanDesk desk, byte[] whole) {
        byte[] other = whole.clone();
        int wrongs = 1 + below(2);
        for (int i = 0; i < wrongs; i++) {
            int place = below(3) == 0 ? below(Math.min(whole.length, 60)) : below(whole.length);
            int value = below(2) == 0 ? HEADS[below(HEADS.length)] : below(256);
            other[place] = (byte) (below(3) == 0 ? other[place] ^ 1 << below(8) : value);
        }
        if (below(4) == 0) {
            other = Arrays.copyOf(other, below(other.length + 1));
        } else if (below(8) == 0) {
            other = Arrays.copyOf(other, other.length + 1 + below(3));
        }
        read(desk, other);
    }

    private static void write(ScanDesk d, Oracle o) {
        d.clear();
        List<int[]> script = new ArrayList<>();
        for (int i = 0; i < 40; i++) {
            int ss = o.kind == 2 ? 1 + below(7) : i < 5 ? 0 : one(0, 1, 1 + below(63));
            int se = o.kind == 2 || ss == 0 ? 0 : one(63, ss + below(64 - ss));
            int al = below(o.kind == 2 ? o.bits : 5);
            int ah = o.kind == 2 || below(3) > 0 ? 0 : al + 1;
            int[] scan = {1 + below((1 << o.count) - 1), ss, se, ah, al};
            if (d.scan(scan[0], ss, se, ah, al) > 0) {
                script.add(scan);
            }
        }
        int interval = below(2) == 0 ? 0 : o.kind == 2 ? o.width * below(5) : below(30);
        d.restart(interval);
        int before = d.look(9);
        int answer = d.write();
        byte[] due = Oracle.write(o, script, interval);
        if (due == null || due.length > 12000) {
            Due.is("write() is refused", answer, due == null ? -4 : -3);
            Due.is("what was written stays", d.look(9), before);
            refusals++;
            return;
        }
        Due.is("write()", answer, due.length);
        for (int i = 0; i < due.length; i++) {
            Due.is("out(" + i + ")", d.out(i), due[i] & 255);
        }
        writes++;
    }
}
