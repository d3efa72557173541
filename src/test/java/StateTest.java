/** Promises 1 to 7, 9, 10, 12 and 14 to 19: what the desk holds and shows. */
final class StateTest {
    public static void main(String[] args) {
        newObject();
        tape();
        pictures();
        coefficients();
        samples();
        clearing();
        intervals();
        taking();
        looks();
        readsAndKnown();
        Due.end();
    }

    private static void newObject() {
        ScanDesk d = new ScanDesk();
        Due.is("NONE", ScanDesk.NONE, -1);
        Due.is("new look(0)", d.look(0), 0);
        for (int what = 1; what <= 6; what++) {
            Due.is("new look(" + what + ")", d.look(what), -1);
        }
        for (int what = 7; what <= 9; what++) {
            Due.is("new look(" + what + ")", d.look(what), 0);
        }
        Due.is("new errorAt", d.errorAt(), -1);
        Due.is("new write", d.write(), -1);
        Due.is("new out", d.out(0), -1);
        Due.is("new known", d.known(0, 0), -1);
        Due.is("new sample", d.sample(0, 0, 0), -1);
        Due.is("new coefficient", d.coefficient(0, 0, 0), 0);
        Due.is("new component", d.component(0, 0), -1);
        Due.is("new end(1)", d.end(1), -1);
        Due.is("new end(0)", d.end(0), 0);
        d.clear();
        Due.is("no interval", pictureBytes(d), 53 + 2);
    }

    private static int pictureBytes(ScanDesk d) {
        d.picture(2, 1, 1, 8, 1, 1, 1);
        return d.write();
    }

    private static void tape() {
        ScanDesk d = new ScanDesk();
        Due.is("feed", d.feed(0xFFD8FFC3, 0x000B0800, 0x01000101, 0x011100FF, 0xD9000000), 20);
        Due.is("end too many", d.end(21), -1);
        Due.is("end below 0", d.end(-1), -1);
        Due.is("end", d.end(17), 17);
        Due.is("end again", d.end(18), -1);
        Due.is("read of it", d.read(), 0);
        Due.is("kind read", d.look(0), 2);
        Due.is("the tape is empty then", d.end(1), -1);
        for (int i = 1; i <= 300; i++) {
            Due.is("feed " + i, d.feed(i, -i, 0, -1, i), 20 * i);
        }
        Due.is("feed beyond 6000", d.feed(0, 0, 0, 0, 0), -1);
        Due.is("end 6000", d.end(6000), 6000);
        Due.is("end 5981", d.end(5981), 5981);
        Due.is("feed beyond 6000 by one", d.feed(0, 0, 0, 0, 0), -1);
        Due.is("end 5980", d.end(5980), 5980);
        Due.is("feed up to 6000", d.feed(0, 0, 0, 0, 0), 6000);
        Due.is("read of nonsense", d.read(), -2);
        Due.is("empty after a fault too", d.end(1), -1);
    }

    private static void pictures() {
        ScanDesk d = new ScanDesk();
        Due.yes("smallest", d.picture(1, 1, 1, 8, 1, 1, 1));
        Due.yes("greatest", d.picture(1, 40, 40, 12, 3, 2, 2));
        int[][] wrong = {
            {0, 8, 8, 8, 1, 1, 1}, {3, 8, 8, 8, 1, 1, 1}, {1, 0, 8, 8, 1, 1, 1}, {1, 41, 8, 8, 1, 1, 1},
            {1, 8, 0, 8, 1, 1, 1}, {1, 8, 41, 8, 1, 1, 1}, {1, 8, 8, 7, 1, 1, 1}, {1, 8, 8, 10, 1, 1, 1},
            {1, 8, 8, 13, 1, 1, 1}, {1, 8, 8, 8, 0, 1, 1}, {1, 8, 8, 8, 4, 1, 1}, {1, 8, 8, 8, 1, 0, 1},
            {1, 8, 8, 8, 1, 3, 1}, {1, 8, 8, 8, 1, 1, 0}, {1, 8, 8, 8, 1, 1, 3}, {2, 8, 8, 1, 1, 1, 1},
            {2, 8, 8, 17, 1, 1, 1}, {2, 8, 8, 8, 1, 2, 1}, {2, 8, 8, 8, 1, 1, 2}, {-1, 8, 8, 8, 1, 1, 1},
            {1, Integer.MIN_VALUE, 8, 8, 1, 1, 1}, {1, 8, Integer.MAX_VALUE, 8, 1, 1, 1},
            {1, 8, 8, 8, Integer.MAX_VALUE, 1, 1}, {1, 8, 8, 8, Integer.MIN_VALUE, 1, 1},
        };
        d.put(2, 3, 9, 4);
        d.scan(7, 0, 0, 0, 0);
        for (int[] w : wrong) {
            Due.no("picture that can't be", d.picture(w[0], w[1], w[2], w[3], w[4], w[5], w[6]));
        }
        Due.is("nothing happened", d.look(3) * 100 + d.look(7) * 10 + d.coefficient(2, 3, 9), 1214);
        Due.yes("anew", d.picture(1, 40, 40, 12, 3, 2, 2));
        Due.is("all 0", d.coefficient(2, 3, 9), 0);
        Due.is("empty script", d.look(7), 0);
        d.put(2, 3, 9, 4);
        Due.yes("once more", d.picture(1, 40, 40, 12, 3, 2, 2));
        Due.is("all 0 once more", d.coefficient(2, 3, 9), 0);
        Due.yes("and with one component", d.picture(1, 40, 40, 12, 1, 2, 2));
        Due.yes("twice", d.picture(1, 40, 40, 12, 1, 2, 2));
        Due.is("no second one", d.component(1, 0), -1);
        Due.no("nor its blocks", d.put(1, 0, 0, 1));
        Due.yes("lossless 2 bits", d.picture(2, 40, 40, 2, 3, 1, 1));
        Due.yes("lossless 16 bits", d.picture(2, 40, 40, 16, 3, 1, 1));
    }

    private static void coefficients() {
        ScanDesk d = new ScanDesk();
        d.picture(1, 17, 9, 8, 2, 2, 1);
        Due.yes("put", d.put(0, 7, 63, -16383));
        Due.yes("put greatest", d.put(1, 3, 0, 16383));
        Due.is("it stands", d.coefficient(0, 7, 63), -16383);
        Due.is("the other too", d.coefficient(1, 3, 0), 16383);
        Due.no("put v below", d.put(0, 0, 0, -16384));
        Due.no("put v above", d.put(0, 0, 0, 16384));
        Due.no("put lowest", d.put(0, 0, 0, Integer.MIN_VALUE));
        Due.no("put k below", d.put(0, 0, -1, 1));
        Due.no("put k above", d.put(0, 0, 64, 1));
        Due.no("put block below", d.put(0, -1, 0, 1));
        Due.no("put block above", d.put(0, 8, 0, 1));
        Due.no("put block above, component 1", d.put(1, 4, 0, 1));
        Due.no("put component below", d.put(-1, 0, 0, 1));
        Due.no("put component above", d.put(2, 0, 0, 1));
        Due.no("no samples here", d.set(0, 0, 0, 1));
        Due.is("no sample here", d.sample(0, 0, 0), -1);
        Due.is("no such block", d.coefficient(0, 8, 0), 0);
        Due.is("no such k", d.coefficient(1, 3, 64) + d.coefficient(1, 3, -1), 0);
        Due.is("no such component", d.coefficient(2, 0, 0) + d.coefficient(-1, 0, 0), 0);
    }

    private static void samples() {
        ScanDesk d = new ScanDesk();
        d.picture(2, 5, 3, 4, 3, 1, 1);
        Due.yes("set", d.set(2, 4, 2, 15));
        Due.yes("set 0", d.set(0, 0, 0, 0));
        Due.is("it stands", d.sample(2, 4, 2), 15);
        Due.is("beside it", d.sample(2, 3, 2) + d.sample(1, 4, 2), 0);
        Due.no("set v above", d.set(0, 0, 0, 16));
        Due.no("set v below", d.set(0, 0, 0, -1));
        Due.no("set x above", d.set(0, 5, 0, 1));
        Due.no("set x below", d.set(0, -1, 1, 1));
        Due.no("set y above", d.set(0, 0, 3, 1));
        Due.no("set y below", d.set(0, 0, -1, 1));
        Due.no("set component above", d.set(3, 0, 0, 1));
        Due.no("set component below", d.set(-1, 0, 0, 1));
        Due.no("no coefficients here", d.put(0, 0, 0, 1));
        Due.is("no coefficient here", d.coefficient(2, 0, 0), 0);
        Due.is("no such x", d.sample(2, 5, 2), -1);
        Due.is("no such y", d.sample(2, 4, 3), -1);
        Due.is("no such component", d.sample(3, 0, 0), -1);
        d.picture(2, 5, 3, 16, 1, 1, 1);
        Due.yes("set 65535", d.set(0, 0, 0, 65535));
        Due.no("set 65536", d.set(0, 0, 0, 65536));
    }

    private static void clearing() {
        ScanDesk d = new ScanDesk();
        d.picture(1, 8, 8, 8, 1, 1, 1);
        Due.is("scan", d.scan(1, 0, 0, 0, 3), 1);
        Due.is("not again", d.scan(1, 0, 0, 0, 3), -5);
        d.clear();
        Due.is("cleared", d.look(7), 0);
        Due.is("known is forgotten", d.scan(1, 0, 0, 3, 2), -5);
        Due.is("from the beginning", d.scan(1, 0, 0, 0, 3), 1);
        Due.is("the picture stays", d.look(0), 1);
    }

    private static void intervals() {
        ScanDesk d = new ScanDesk();
        Due.no("restart below", d.restart(-1));
        Due.no("restart above", d.restart(2001));
        Due.yes("restart", d.restart(2000));
        d.picture(1, 8, 8, 8, 1, 1, 1);
        Due.is("a DRI is written", d.write(), 2 + 13 + 311 + 6 + 2);
        Due.written("DRI", d, 326, "FFDD000407D0FFD9");
        Due.no("a wrong one changes nothing", d.restart(5000));
        Due.is("still a DRI", d.write(), 334);
        Due.yes("restart 0", d.restart(0));
        Due.is("no DRI", d.write(), 328);
    }

    private static void taking() {
        ScanDesk d = new ScanDesk();
        d.feed(1, 2, 3, 4, 5);
        Due.is("take of nothing", d.take(), 0);
        Due.is("tape is empty", d.end(1), -1);
        d.picture(2, 40, 40, 16, 3, 1, 1);
        for (int i = 0; i < 200; i++) {
            d.set(i % 3, i % 40, i % 37, 65535 - 300 * i);
        }
        for (int c = 0; c < 3; c++) {
            d.scan(1 << c, 1, 0, 0, 0);
        }
        int n = d.write();
        Due.is("bytes", n, d.look(9));
        Due.is("take", d.take(), n);
        Due.is("as many on the tape", d.end(n), n);
        Due.is("not more", d.end(n + 1), -1);
        Due.is("what is written stays", d.out(n - 1), 0xD9);
        Due.is("out behind", d.out(n), -1);
        Due.is("out ahead", d.out(-1), -1);
        Due.is("out far", d.out(Integer.MAX_VALUE), -1);
        tooLongToTake();
    }

    private static void tooLongToTake() {
        ScanDesk d = new ScanDesk();
        d.picture(2, 40, 40, 16, 3, 1, 1);
        for (int i = 0; i < 480; i++) {
            d.set(i % 3, 2 * (i / 3 % 19), 2 * (i / 57), 30000 + i);
        }
        d.scan(7, 4, 0, 0, 0);
        int n = d.write();
        Due.is("more than 6000", n > 6000 ? 1 : 0, 1);
        d.feed(1, 2, 3, 4, 5);
        Due.is("take of too much", d.take(), -1);
        Due.is("the tape stays", d.end(20), 20);
        Due.is("and is no longer", d.end(21), -1);
    }

    private static void looks() {
        ScanDesk d = new ScanDesk();
        d.picture(1, 17, 9, 12, 3, 2, 1);
        int[] due = {1, 17, 9, 12, 3, 2, 2, 0, 0, 0};
        for (int what = 0; what < due.length; what++) {
            Due.is("look(" + what + ")", d.look(what), due[what]);
        }
        Due.is("look(10)", d.look(10), -1);
        Due.is("look(-1)", d.look(-1), -1);
        int[][] parts = {{2, 1, 17, 9, 4, 2}, {1, 1, 9, 9, 2, 2}, {1, 1, 9, 9, 2, 2}};
        for (int c = 0; c < 3; c++) {
            for (int what = 0; what < 6; what++) {
                Due.is("component(" + c + ", " + what + ")", d.component(c, what), parts[c][what]);
            }
            Due.is("component what below", d.component(c, -1), -1);
            Due.is("component what above", d.component(c, 6), -1);
        }
        Due.is("no component 3", d.component(3, 0), -1);
        Due.is("no component below", d.component(-1, 0), -1);
        d.picture(1, 33, 40, 8, 1, 2, 2);
        Due.is("MCUS in a row", d.look(5), 3);
        Due.is("rows of MCUS", d.look(6), 3);
        Due.is("blocks in a row", d.component(0, 4), 6);
        d.picture(2, 33, 7, 8, 2, 1, 1);
        Due.is("lossless MCUS", d.look(5) * 100 + d.look(6), 3307);
        int[] lossless = {1, 1, 33, 7, 0, 0};
        for (int what = 0; what < 6; what++) {
            Due.is("lossless component(1, " + what + ")", d.component(1, what), lossless[what]);
        }
    }

    private static void readsAndKnown() {
        ScanDesk d = new ScanDesk();
        d.picture(1, 8, 8, 8, 2, 1, 1);
        d.put(0, 0, 0, 40);
        d.scan(3, 0, 0, 0, 2);
        d.scan(2, 5, 9, 0, 1);
        d.scan(1, 0, 0, 2, 1);
        Due.is("known by the script is not known", d.known(0, 0), -1);
        d.write();
        d.take();
        Due.is("read", d.read(), 3);
        Due.is("the script is empty", d.look(7), 0);
        Due.is("scans read", d.look(8), 3);
        Due.is("known 0 0", d.known(0, 0), 1);
        Due.is("known 1 0", d.known(1, 0), 2);
        Due.is("known 1 4", d.known(1, 4), -1);
        Due.is("known 1 5", d.known(1, 5), 1);
        Due.is("known 1 9", d.known(1, 9), 1);
        Due.is("known 1 10", d.known(1, 10), -1);
        Due.is("known k below", d.known(0, -1), -1);
        Due.is("known k above", d.known(0, 64), -1);
        Due.is("known component above", d.known(2, 0), -1);
        Due.is("known component below", d.known(-1, 63), -1);
        Due.is("what the script knows is its own", d.scan(1, 0, 0, 1, 0), -5);
        Due.is("so it can tell anew", d.scan(1, 0, 0, 0, 1), 1);
        d.feed(-1, 0, 0, 0, 0);
        Due.is("a fault", d.read(), -2);
        Due.is("its place", d.errorAt(), 1);
        Due.is("all else stays", d.look(8) * 100 + d.look(7) * 10 + d.known(0, 0), 311);
        Due.is("the picture too", d.coefficient(0, 0, 0), 40);
        d.put(0, 0, 0, 2);
        Due.is("known stays when put", d.known(0, 0), 1);
        d.picture(1, 8, 8, 8, 2, 1, 1);
        Due.is("a picture that came otherwise", d.known(0, 0), -1);
        Due.is("scans read stay", d.look(8), 3);
        Due.is("the place stays", d.errorAt(), 1);
        d.take();
        Due.is("read behind a fault", d.read(), 3);
        Due.is("no place without a fault", d.errorAt(), -1);
    }
}
