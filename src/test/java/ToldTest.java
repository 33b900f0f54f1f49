/** Promises 31 to 34: wedges, told drives. */
public final class ToldTest {
    public static void main(String[] args) {
        promise31Quiet();
        promise32Forged();
        promise33Judge();
        promise34Winters();
        Due.ends();
    }

    private static void promise31Quiet() {
        RattleAtFifty x = Due.car("p0501;p1501;");
        Due.fill(x, 0, Due.BYTES);
        Due.is("31: as now", x.quiet(0, 0), 30);
        Due.is("31: the least", x.quiet(0, 1), 0);
        Due.fill(x, 0, Due.BYTES, 0, 1);
        Due.is("31: held", x.quiet(0, 0), 94);
        Due.fill(x, 0, Due.BYTES, -128, 2);
        Due.is("31: skipped, wedged", x.quiet(0, 0), 94);
        Due.fill(x, 0, Due.SHORTS, 3, 3);
        Due.is("31: all out", x.quiet(0, 0), 100);
        x.outs(1);
        Due.fill(x, 0, Due.SHORTS, 3, -32768);
        Due.is("31: skipped ones as now", x.quiet(0, 0), 100);
        Due.fill(x, 0, Due.INTS, Integer.MIN_VALUE, 0);
        Due.is("31: out, told free", x.quiet(0, 0), 30);
        Due.is("31: still out", x.part(1, 4), 3);
        RattleAtFifty y = Due.car("p1501;p1501;");
        x.set(3, 5);
        Due.fill(x, 0, Due.BYTES, 3);
        Due.is("31: by radio", x.quiet(0, 0), 100);
        Due.fill(y, 0, Due.BYTES, 3);
        Due.is("31: others as now", y.quiet(0, 0), 30);
        RattleAtFifty far = Due.car("p1331;");
        Due.fill(far, 0, Due.BYTES, 0);
        Due.is("31: at seat 0", far.quiet(0, 0), 100);
        promise31Refusals();
    }

    private static void promise31Refusals() {
        RattleAtFifty x = Due.car("p0501;p1501;");
        Due.is("31: shelf", x.quiet(8, 0), -1);
        Due.is("31: shelf", x.quiet(-1, 0), -1);
        Due.is("31: what, first", x.quiet(0, 2), -1);
        Due.is("31: what, first", x.quiet(0, -1), -1);
        Due.is("31: nothing there", x.quiet(0, 0), -11);
        x.keep(0, 1, 0, 1);
        Due.is("31: a kind", x.quiet(0, 0), -12);
        Due.fill(x, 0, Due.BYTES, 0, 0, 0);
        Due.is("31: more than parts", x.quiet(0, 0), -13);
        Due.fill(x, 0, Due.BYTES, 0, 4);
        Due.is("31: no state", x.quiet(0, 0), -13);
        Due.fill(x, 0, Due.BYTES, 0, -1);
        Due.is("31: no state", x.quiet(0, 0), -13);
        Due.fill(x, 0, Due.BYTES, 4, 0);
        Due.is("31: no state", x.quiet(0, 0), -13);
        Due.fill(x, 0, Due.SHORTS, 0, -128);
        Due.is("31: the least of another sort", x.quiet(0, 0), -13);
        RattleAtFifty y = new RattleAtFifty();
        Due.fill(y, 0, Due.BYTES);
        Due.is("31: no parts", y.quiet(0, 0), 100);
        // No KIND is LOUD at PACE 0, so that -4 is never due.
        Due.is("31: no parts", y.quiet(0, 1), 0);
    }

    private static void promise32Forged() {
        RattleAtFifty x = Due.car("p4501;p1201;");
        Due.is("32: shelf", x.forged(8), -1);
        Due.is("32: shelf", x.forged(-1), -1);
        Due.is("32: nothing there", x.forged(0), -11);
        x.keep(0, 1, 0, 1);
        Due.is("32: a kind", x.forged(0), -12);
        x.row(0, Due.BYTES, 0);
        Due.is("32: nothing told", x.forged(0), -4);
        x.row(0, Due.BYTES, 60);
        Due.is("32: silent, though loose from 30", x.forged(0), 30);
        for (int i = 30; i < 60; i++) {
            x.put(0, i, 2);
        }
        Due.is("32: as with load 5", x.forged(0), -4);
        for (int i = 48; i <= 53; i++) {
            x.put(0, i, 4);
        }
        Due.is("32: as with load 3", x.forged(0), -4);
        x.put(0, 52, 5);
        Due.is("32: load 3, then load 2", x.forged(0), 52);
        x.put(0, 52, -128);
        Due.is("32: skipped", x.forged(0), -4);
        x.put(0, 48, 8);
        Due.is("32: above all loads", x.forged(0), 48);
        x.put(0, 48, 7);
        Due.is("32: load 0, then load 3", x.forged(0), 49);
        Due.is("32: load stays", x.count(4), 0);
        x.put(0, 0, 1);
        Due.is("32: at once", x.forged(0), 0);
    }

    private static void promise33Judge() {
        RattleAtFifty x = Due.car("p0501;p0301;p0101;h0;w1;");
        Due.is("33: shelf", x.judge(8), -1);
        Due.is("33: shelf", x.judge(-1), -1);
        Due.is("33: nothing there", x.judge(0), -11);
        x.keep(0, 1, 0, 1);
        Due.is("33: a kind", x.judge(0), -12);
        Due.fill(x, 0, Due.BYTES);
        Due.is("33: nothing told", x.judge(0), -4);
        Due.fill(x, 0, Due.BYTES, 1, 6, 9, 9);
        Due.is("33: all so", x.judge(0), -4);
        Due.is("33: nothing changes", x.part(0, 4), 1);
        Due.fill(x, 0, Due.INTS, 1, 6, 9, 8);
        Due.is("33: the fourth", x.judge(0), 3);
        Due.fill(x, 0, Due.INTS, Integer.MIN_VALUE, 6, Integer.MIN_VALUE, 9);
        Due.is("33: skipped, but driven", x.judge(0), -4);
        Due.fill(x, 0, Due.SHORTS, -32768, 1);
        Due.is("33: skipped, but driven", x.judge(0), 1);
        x.drives(1);
        Due.fill(x, 0, Due.BYTES, 6, 9);
        Due.is("33: wedged for one drive more", x.judge(0), -4);
        RattleAtFifty y = Due.car("p0501;w0;");
        for (int i = 0; i < 101; i++) {
            y.drives(99);
        }
        Due.fill(y, 0, Due.BYTES, 5, 5);
        Due.is("33: miles do not matter", y.judge(0), -4);
    }

    private static void promise34Winters() {
        RattleAtFifty x = Due.car("p1501;p3301;p0921;h0;w1;");
        for (int n : new int[] {1, 2, 20}) {
            for (int z : new int[] {0, 1, -1, 4711, Integer.MIN_VALUE, Integer.MAX_VALUE}) {
                int[] due = winters(n, z);
                Due.is("34: drives, n " + n + ", z " + z, x.winters(n, z, 0), due[0]);
                Due.is("34: heard, n " + n + ", z " + z, x.winters(n, z, 1), due[1]);
            }
        }
        Due.is("34: nothing changes", x.part(0, 4), 1);
        Due.is("34: pace stays", x.count(2), 50);
        Due.is("34: cold stays", x.count(3), 5);
        for (int n : new int[] {0, 21, -1, Integer.MAX_VALUE}) {
            Due.is("34: n", x.winters(n, 0, 0), -1);
        }
        Due.is("34: what", x.winters(1, 0, 2), -1);
        Due.is("34: what", x.winters(1, 0, -1), -1);
        RattleAtFifty soft = Due.car("p1601;r05;");
        Due.holds("34: each by 1", soft.winters(20, 7, 0) > 0 && soft.winters(20, 7, 0) == soft.winters(20, 7, 1));
        Due.is("34: no parts", new RattleAtFifty().winters(20, 7, 0), 0);
    }

    /** The winters of the car of this test, written out with longs: DRIVES and HEARD. */
    private static int[] winters(int n, int z) {
        long seed = z & 0xffffffffL;
        int[] due = new int[2];
        for (int winter = 0; winter < n; winter++) {
            for (int drive = 0; drive < 10; drive++) {
                seed = (seed * 1103515245L + 12345) & 0xffffffffL;
                long pace = (seed & 0x7fffffffL) / 65536 % 100;
                seed = (seed * 1103515245L + 12345) & 0xffffffffL;
                long cold = (seed & 0x7fffffffL) / 65536 % 10;
                int loose = drive >= 1 && pace >= 30 ? 5 : 0;
                int frosty = drive >= 2 && pace >= 30 && cold >= 5 ? 3 : 0;
                int plain = pace >= 48 && pace <= 53 ? 7 : 0;
                int sum = loose + frosty + plain;
                due[0] += sum > 0 ? 1 : 0;
                due[1] += sum;
            }
        }
        return due;
    }
}
