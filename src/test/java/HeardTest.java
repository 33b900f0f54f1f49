/** Promises 11 to 18: what is heard. */
public final class HeardTest {
    public static void main(String[] args) {
        promise11Heard();
        promise12Loudest();
        promise13Paces();
        promise14SilentFrom();
        promise15HoldAll();
        promise16Radio();
        promise17Wanted();
        promise18BestSeat();
        Due.ends();
    }

    private static void promise11Heard() {
        RattleAtFifty x = Due.car("p0301;p1531;p0111;");
        Due.is("11: seat 0", x.heard(0, 50), 3 + 2 + 0);
        Due.is("11: seat 1", x.heard(1, 50), 2 + 3 + 1);
        Due.is("11: seat 3", x.heard(3, 50), 0 + 5 + 0);
        Due.is("11: loose alone", x.heard(0, 47), 2);
        Due.is("11: loose alone", x.heard(0, 54), 2);
        Due.is("11: nothing", x.heard(3, 29), 0);
        x.set(3, 4);
        Due.is("11: less radio", x.heard(0, 50), 1);
        x.set(3, 40);
        Due.is("11: 0 at least", x.heard(0, 50), 0);
        x.set(3, 0);
        x.holds(0);
        Due.is("11: held", x.heard(0, 50), 2);
        x.wedges(1);
        Due.is("11: wedged", x.heard(1, 50), 1);
        Due.is("11: pace stays", x.count(2), 50);
        for (int seat : new int[] {-1, 4, Integer.MAX_VALUE}) {
            Due.is("11: seat", x.heard(seat, 50), -1);
        }
        for (int pace : new int[] {-1, 100, Integer.MIN_VALUE}) {
            Due.is("11: pace", x.heard(0, pace), -1);
        }
    }

    private static void promise12Loudest() {
        RattleAtFifty x = Due.car("p0401;p1631;p0401;");
        Due.is("12: of several the least", x.loudest(0), 0);
        Due.is("12: the loudest there", x.loudest(3), 1);
        x.set(3, 40);
        Due.is("12: radio aside", x.loudest(3), 1);
        x.holds(0);
        Due.is("12: held", x.loudest(0), 2);
        x.set(0, 29);
        Due.is("12: none", x.loudest(0), -4);
        Due.is("12: seat", x.loudest(4), -1);
        Due.is("12: seat", x.loudest(-1), -1);
        RattleAtFifty y = Due.car("p0331;");
        Due.is("12: too far", y.loudest(0), -4);
        Due.is("12: just heard", y.loudest(1), 0);
    }

    private static void promise13Paces() {
        RattleAtFifty x = Due.car("p0501;");
        Due.is("13: many", x.paces(0, 0), 6);
        Due.is("13: least", x.paces(0, 1), 48);
        Due.is("13: greatest", x.paces(0, 2), 53);
        x.set(3, 5);
        Due.is("13: none by radio", x.paces(0, 0), 0);
        Due.is("13: no least", x.paces(0, 1), -4);
        Due.is("13: no greatest", x.paces(0, 2), -4);
        Due.is("13: what", x.paces(0, 3), -1);
        Due.is("13: what", x.paces(0, -1), -1);
        Due.is("13: seat", x.paces(4, 0), -1);
        Due.is("13: seat", x.paces(-1, 0), -1);
        RattleAtFifty y = Due.car("p5211;r05;");
        Due.is("13: even ones alone", y.paces(0, 0), 3);
        Due.is("13: least", y.paces(0, 1), 48);
        Due.is("13: greatest", y.paces(0, 2), 52);
        RattleAtFifty z = Due.car("p1501;");
        Due.is("13: from 30 on", z.paces(0, 0), 70);
        Due.is("13: least", z.paces(0, 1), 30);
        Due.is("13: greatest", z.paces(0, 2), 99);
    }

    private static void promise14SilentFrom() {
        RattleAtFifty x = Due.car("p0501;");
        Due.is("14: at once", x.silentFrom(0, 0), 0);
        Due.is("14: that much", x.silentFrom(0, 47), 47);
        Due.is("14: behind", x.silentFrom(0, 48), 54);
        Due.is("14: the last", x.silentFrom(0, 99), 99);
        Due.is("14: below", x.silentFrom(0, -1), -1);
        Due.is("14: above", x.silentFrom(0, 100), -1);
        Due.is("14: seat", x.silentFrom(4, 0), -1);
        Due.is("14: seat", x.silentFrom(-1, 0), -1);
        RattleAtFifty y = Due.car("p1501;");
        Due.is("14: none", y.silentFrom(0, 30), -4);
        Due.is("14: none", y.silentFrom(0, 99), -4);
        y.set(3, 5);
        Due.is("14: by radio", y.silentFrom(0, 30), 30);
    }

    private static void promise15HoldAll() {
        RattleAtFifty x = Due.car("p0301;p0301;p2301;p6901;r06;");
        Due.is("15: one is enough", x.holdAll(0), 4);
        Due.is("15: seconds", x.holdAll(1), 13);
        x.set(3, 8);
        Due.is("15: still", x.holdAll(0), 4);
        x.set(3, 9);
        Due.is("15: of several the least", x.holdAll(0), 1);
        Due.is("15: seconds", x.holdAll(1), 10);
        x.set(3, 12);
        Due.is("15: none wanted", x.holdAll(0), 0);
        Due.is("15: none wanted", x.holdAll(1), 0);
        x.set(3, 0);
        Due.is("15: all that are heard", x.holdAll(0), 7);
        x.holds(0);
        Due.is("15: free ones alone", x.holdAll(0), 6);
        Due.is("15: seconds", x.holdAll(1), 23);
        Due.is("15: nothing changes", x.count(7), 14);
        x.set(0, 10);
        Due.is("15: now", x.holdAll(0), 0);
        Due.is("15: what", x.holdAll(2), -1);
        Due.is("15: what", x.holdAll(-1), -1);
        RattleAtFifty y = Due.car("p0931;p0501;p0501;r06;");
        // 6 + 5 + 5 at SEAT 0, less one of them is 10 or 11: two must be held, 0 and 1 are the least two.
        Due.is("15: two of three", y.holdAll(0), 3);
        Due.is("15: seconds", y.holdAll(1), 20);
    }

    private static void promise16Radio() {
        RattleAtFifty x = Due.car("p0501;p0511;");
        Due.is("16: least", x.radio(0), 9);
        x.set(3, 40);
        Due.is("16: whatever it is now", x.radio(0), 9);
        Due.is("16: seat 3", x.radio(3), 2 + 3);
        x.set(0, 54);
        Due.is("16: none wanted", x.radio(0), 0);
        Due.is("16: seat", x.radio(4), -1);
        Due.is("16: seat", x.radio(-1), -1);
        RattleAtFifty y = Due.car("p2901;p2901;p0401;");
        Due.is("16: the most", y.radio(0), 40);
        RattleAtFifty z = Due.car("p2901;p2901;p0501;");
        Due.is("16: not enough", z.radio(0), -4);
        Due.is("16: radio stays", z.count(5), 0);
    }

    private static void promise17Wanted() {
        RattleAtFifty x = Due.car("p4501;");
        Due.is("17: load", x.wanted(0), 5);
        x.set(3, 2);
        Due.is("17: load with radio", x.wanted(0), 3);
        x.set(2, 5);
        Due.is("17: whatever it is now", x.wanted(0), 3);
        Due.is("17: load stays", x.count(4), 5);
        Due.is("17: cold, all are silent", x.wanted(1), 9);
        RattleAtFifty y = Due.car("p3501;");
        Due.is("17: cold", y.wanted(1), 4);
        Due.is("17: load does nothing", y.wanted(0), -4);
        Due.is("17: cold stays", y.count(3), 5);
        y.set(1, 0);
        Due.is("17: load, none wanted", y.wanted(0), 0);
        RattleAtFifty z = Due.car("p0501;");
        Due.is("17: none", z.wanted(0), -4);
        Due.is("17: none", z.wanted(1), -4);
        Due.is("17: what", z.wanted(2), -1);
        Due.is("17: what", z.wanted(-1), -1);
        RattleAtFifty w = Due.car("p4901;");
        Due.is("17: not enough load", w.wanted(0), -4);
        RattleAtFifty far = Due.car("p3331;p4331;");
        Due.is("17: at seat 0", far.wanted(0), 0);
        Due.is("17: at seat 0", far.wanted(1), 9);
        far.keep(0, 1, 3, 4);
        far.adds(0, 0, 1);
        Due.is("17: all else as now", far.wanted(1), 4);
    }

    private static void promise18BestSeat() {
        Due.is("18: no parts", new RattleAtFifty().bestSeat(), 0);
        RattleAtFifty x = Due.car("p0531;");
        Due.is("18: where it is", x.bestSeat(), 3);
        x.set(3, 5);
        Due.is("18: nothing heard", x.bestSeat(), 0);
        x.set(3, 4);
        Due.is("18: just heard", x.bestSeat(), 3);
        RattleAtFifty y = Due.car("p0511;p0521;");
        Due.is("18: of several the least", y.bestSeat(), 1);
    }
}
