/** Promises 1 to 10: a new object and the road as told. */
public final class RoadTest {
    public static void main(String[] args) {
        promise1NewObject();
        promise2Road();
        promise2FaultsOfForm();
        promise2FaultsOfSense();
        promise3Part();
        promise4Adds();
        promise5Holds();
        promise6Wedges();
        promise7Outs();
        promise8Screws();
        promise9Set();
        promise10Drives();
        Due.ends();
    }

    private static void promise1NewObject() {
        RattleAtFifty x = new RattleAtFifty();
        int[] due = {0, 0, 50, 5, 0, 0, 0, 0};
        for (int what = 0; what < due.length; what++) {
            Due.is("1: count(" + what + ")", x.count(what), due[what]);
        }
        Due.is("1: part(0, 0)", x.part(0, 0), -1);
        Due.is("1: heard(0, 50)", x.heard(0, 50), 0);
        Due.is("1: restore()", x.restore(), -3);
        for (int d = 0; d < 8; d++) {
            Due.is("1: cost(" + d + ")", x.cost(d), -11);
        }
    }

    private static void promise2Road() {
        RattleAtFifty x = new RattleAtFifty();
        Due.is("2: all letters", Due.follow(x, "p0501;p1419;p2325;s48;c7;l2;r03;h0;w1;o2;t0;d12;"), 12);
        Due.is("2: parts", x.count(0), 3);
        Due.is("2: pace", x.count(2), 48);
        Due.is("2: cold", x.count(3), 7);
        Due.is("2: load", x.count(4), 2);
        Due.is("2: radio", x.count(5), 3);
        Due.is("2: miles", x.count(1), 12);
        Due.is("2: held is free again", x.part(0, 4), 0);
        Due.is("2: wedged still", x.part(1, 4), 2);
        Due.is("2: out", x.part(2, 4), 3);
        Due.is("2: screwed", x.part(0, 1), 0);
        Due.is("2: loosened", x.part(1, 1), 7);
        Due.is("2: seat", x.part(1, 2), 1);
        Due.is("2: weight", x.part(1, 3), 9);
        Due.is("2: a second text goes on", Due.follow(x, "o2;d01;p7931;"), 3);
        Due.is("2: out no more", x.part(2, 4), 0);
        Due.is("2: wedged no more", x.part(1, 4), 0);
        Due.is("2: one more", x.count(0), 4);
        Due.is("2: the text stays", x.element(7, 0), 'o');
        Due.is("2: no such shelf", x.road(-1), -1);
        Due.is("2: no such shelf", x.road(8), -1);
        Due.is("2: nothing there", x.road(0), -11);
        x.keep(0, 1, 0, 0);
        Due.is("2: a kind", x.road(0), -12);
        x.row(0, Due.SHORTS, 3);
        Due.is("2: shorts", x.road(0), -12);
        x.row(0, Due.INTS, 0);
        Due.is("2: ints", x.road(0), -12);
    }

    private static void promise2FaultsOfForm() {
        fault("", -1000);
        fault(";", -1000);
        fault("x1;", -1000);
        fault("S50;", -1000);
        fault("p", -1001);
        fault("p050", -1004);
        fault("p0501", -1005);
        fault("p050;", -1004);
        fault("p05011;", -1005);
        fault("s5;", -1002);
        fault("s500;", -1003);
        fault("c55;", -1002);
        fault("s50;;", -1004);
        fault("s50; ", -1004);
        fault("s50;c", -1005);
        fault("s50;c:;", -1005);
        fault("s50;c/;", -1005);
        fault("h;", -1001);
        fault("l6;s5", -1005);
        RattleAtFifty x = new RattleAtFifty();
        Due.fill(x, 0, Due.BYTES, 's', '5', '0', ';', -1);
        Due.is("2: a byte below 0", x.road(0), -1004);
        Due.is("2: no such size", x.row(0, Due.BYTES, 100), 0);
        for (int i = 0; i < 100; i++) {
            x.put(0, i, "c5;".charAt(i % 3));
        }
        Due.is("2: a whole row, one byte too long", x.road(0), -1100);
    }

    private static void promise2FaultsOfSense() {
        fault("p8001;", -2000);
        fault("p0041;", -2000);
        fault("p0000;", -2000);
        fault("l6;", -2000);
        fault("r41;", -2000);
        fault("h0;", -2000);
        fault("w0;", -2000);
        fault("o0;", -2000);
        fault("t0;", -2000);
        fault("d00;", -2000);
        fault("s50;p0501;h1;", -2010);
        fault("p0501;o0;w0;", -2009);
        fault("p0501;o0;h0;o0;", -2009);
        fault("r41;l6;", -2000);
        fault("p0501;p0501;p0501;p0501;p0501;p0501;p0501;c5;p0501;", -2045);
        RattleAtFifty x = new RattleAtFifty();
        for (int i = 0; i < 101; i++) {
            x.drives(99);
        }
        Due.is("2: miles to the end", x.count(1), 9999);
        Due.is("2: too many miles", Due.follow(x, "s30;d01;"), -2004);
        Due.is("2: nothing came", x.count(2), 50);
        Due.is("2: screwed, and no other one", Due.follow(new RattleAtFifty(), "p0501;t0;"), 2);
        Due.is("2: good to its ends", Due.follow(x, "s00;s99;c0;c9;l0;l5;r00;r40;p0001;p7939;o1;o1;h1;w1;"), 14);
    }

    private static void fault(String text, int due) {
        RattleAtFifty x = Due.car("p4729;s31;");
        String before = Due.told(x);
        RattleAtFifty y = new RattleAtFifty();
        Due.is("2: road of " + text, Due.follow(y, text), due);
        Due.is("2: parts behind a fault", y.count(0), 0);
        Due.follow(x, "l9;" + text);
        Due.holds("2: nothing comes behind a fault", Due.told(x).equals(before));
    }

    private static void promise3Part() {
        // KIND, FIGURE, LOUD at PACES 29, 30, 47, 48, 53, 54 with COLD 5 and LOAD 2, SECONDS, LOOSENS.
        int[][] due = {
            {0, 5, 0, 0, 0, 5, 5, 0, 10, 1},
            {1, 5, 0, 5, 5, 5, 5, 5, 6, 3},
            {2, 5, 0, 0, 0, 10, 10, 0, 15, 1},
            {3, 5, 0, 5, 5, 5, 5, 5, 12, 3},
            {4, 5, 0, 0, 0, 3, 3, 0, 15, 1},
            {5, 5, 0, 0, 0, 13, 10, 0, 17, 1},
            {6, 5, 0, 0, 0, 0, 0, 0, 10, 0},
            {7, 5, 0, 0, 0, 6, 6, 0, 15, 1},
        };
        int[] paces = {29, 30, 47, 48, 53, 54};
        for (int[] row : due) {
            RattleAtFifty x = Due.car("l2;p" + row[0] + row[1] + "38;");
            Due.is("3: kind", x.part(0, 0), row[0]);
            Due.is("3: figure", x.part(0, 1), row[1]);
            Due.is("3: seat", x.part(0, 2), 3);
            Due.is("3: weight", x.part(0, 3), 8);
            Due.is("3: state", x.part(0, 4), 0);
            for (int i = 0; i < paces.length; i++) {
                x.set(0, paces[i]);
                Due.is("3: loud of kind " + row[0] + " at " + paces[i], x.part(0, 5), row[2 + i]);
            }
            Due.is("3: seconds of kind " + row[0], x.part(0, 6), row[8]);
            Due.is("3: loosens of kind " + row[0], x.part(0, 7), row[9]);
        }
        promise3Edges();
    }

    private static void promise3Edges() {
        RattleAtFifty x = Due.car("p3901;p4301;p5001;p7301;l5;c4;");
        Due.is("3: frosty in less cold", x.part(0, 5), 0);
        Due.is("3: heavy, 0 at least", x.part(1, 5), 0);
        Due.is("3: doubled of nothing is nothing", x.part(2, 5), 0);
        Due.is("3: deep, 0 at least", x.part(3, 5), 0);
        x.outs(0);
        x.set(1, 5);
        Due.is("3: loud though out", x.part(0, 5), 9);
        Due.is("3: state", x.part(0, 4), 3);
        RattleAtFifty y = Due.car("p5101;p2101;");
        Due.is("3: doubled of 1", y.part(0, 5), 5);
        Due.is("3: tinny of 1", y.part(1, 5), 2);
        Due.is("3: no such part", x.part(4, 0), -1);
        Due.is("3: no such part", x.part(-1, 0), -1);
        Due.is("3: no such what", x.part(0, 8), -1);
        Due.is("3: no such what", x.part(0, -1), -1);
        Due.is("3: no such part", x.part(Integer.MAX_VALUE, Integer.MIN_VALUE), -1);
    }

    private static void promise4Adds() {
        RattleAtFifty x = new RattleAtFifty();
        Due.is("4: nothing there", x.adds(0, 0, 1), -11);
        Due.is("4: no such seat, first", x.adds(0, 4, 1), -1);
        Due.is("4: no such weight, first", x.adds(0, 0, 0), -1);
        x.keep(0, 1, 5, 7);
        Due.is("4: seat", x.adds(0, -1, 1), -1);
        Due.is("4: seat", x.adds(0, 4, 1), -1);
        Due.is("4: weight", x.adds(0, 0, 0), -1);
        Due.is("4: weight", x.adds(0, 0, 10), -1);
        Due.is("4: shelf", x.adds(8, 0, 1), -1);
        Due.is("4: shelf", x.adds(-1, 0, 1), -1);
        x.row(1, 0, 1);
        Due.is("4: a row", x.adds(1, 0, 1), -12);
        for (int p = 0; p < 7; p++) {
            Due.is("4: number", x.adds(0, p % 4, p + 1), p);
        }
        Due.is("4: kind", x.part(6, 0), 5);
        Due.is("4: figure", x.part(6, 1), 7);
        Due.is("4: seat", x.part(6, 2), 2);
        Due.is("4: weight", x.part(6, 3), 7);
        Due.is("4: state", x.part(6, 4), 0);
        Due.is("4: no room", x.adds(0, 0, 1), -2);
        Due.is("4: a row, ahead of no room", x.adds(1, 0, 1), -12);
        Due.is("4: count", x.count(0), 7);
        Due.is("4: it stays on the shelf", x.cost(0), 12);
        x.screws(6);
        Due.is("4: the shelf's figure stays", x.cost(0), 12);
    }

    private static void promise5Holds() {
        RattleAtFifty x = Due.car("p2501;p0501;");
        Due.is("5: seconds", x.holds(0), 15);
        Due.is("5: state", x.part(0, 4), 1);
        Due.is("5: the other is heard", x.heard(0, 50), 5);
        Due.is("5: again", x.holds(0), 15);
        Due.is("5: no such one", x.holds(2), -1);
        Due.is("5: no such one", x.holds(-1), -1);
        x.wedges(1);
        Due.is("5: a wedged one", x.holds(1), 10);
        Due.is("5: state", x.part(1, 4), 1);
        x.drives(1);
        Due.is("5: free again", x.count(7), 3);
        x.outs(0);
        Due.is("5: out", x.holds(0), -3);
        Due.is("5: state", x.part(0, 4), 3);
    }

    private static void promise6Wedges() {
        RattleAtFifty x = Due.car("p0501;");
        Due.is("6: was free", x.wedges(0), 0);
        x.drives(1);
        Due.is("6: still wedged", x.part(0, 4), 2);
        Due.is("6: silent", x.heard(0, 50), 0);
        Due.is("6: was wedged", x.wedges(0), 2);
        Due.is("6: silent", x.drives(1), 0);
        Due.is("6: anew, so still wedged", x.part(0, 4), 2);
        Due.is("6: silent", x.drives(1), 0);
        Due.is("6: free again", x.part(0, 4), 0);
        Due.is("6: heard", x.drives(1), 5);
        x.holds(0);
        Due.is("6: was held", x.wedges(0), 1);
        x.drives(1);
        Due.is("6: wedged, not held", x.part(0, 4), 2);
        x.outs(0);
        Due.is("6: out", x.wedges(0), -3);
        x.outs(0);
        Due.is("6: free", x.wedges(0), 0);
        x.drives(1);
        Due.is("6: two drives from here", x.part(0, 4), 2);
        Due.is("6: no such one", x.wedges(1), -1);
        Due.is("6: no such one", x.wedges(-1), -1);
    }

    private static void promise7Outs() {
        RattleAtFifty x = Due.car("p0501;");
        Due.is("7: out", x.outs(0), 3);
        Due.is("7: silent", x.heard(0, 50), 0);
        x.drives(1);
        x.drives(1);
        Due.is("7: still out", x.part(0, 4), 3);
        Due.is("7: free", x.outs(0), 0);
        x.holds(0);
        Due.is("7: a held one", x.outs(0), 3);
        x.outs(0);
        x.wedges(0);
        Due.is("7: a wedged one", x.outs(0), 3);
        Due.is("7: no such one", x.outs(1), -1);
        Due.is("7: no such one", x.outs(-1), -1);
    }

    private static void promise8Screws() {
        RattleAtFifty x = Due.car("p0501;p1501;p6501;p3801;");
        Due.is("8: loose 3 more", x.screws(0), 8);
        Due.is("8: its own", x.part(0, 1), 0);
        Due.is("8: dead none more", x.screws(1), 5);
        Due.is("8: 9 at most", x.screws(2), 9);
        Due.is("8: round", x.screws(3), 1);
        Due.is("8: figures", x.count(6), 1);
        x.outs(0);
        Due.is("8: though out", x.screws(0), 3);
        Due.is("8: state stays", x.part(0, 4), 3);
        Due.is("8: no such one", x.screws(4), -1);
        Due.is("8: no such one", x.screws(-1), -1);
        RattleAtFifty y = Due.car("p0501;");
        Due.is("8: no other one", y.screws(0), 0);
        Due.is("8: its own", y.part(0, 1), 0);
    }

    private static void promise9Set() {
        RattleAtFifty x = new RattleAtFifty();
        int[] first = {50, 5, 0, 0};
        int[] most = {99, 9, 5, 40};
        for (int what = 0; what < 4; what++) {
            Due.is("9: what it was", x.set(what, most[what]), first[what]);
            Due.is("9: above", x.set(what, most[what] + 1), -1);
            Due.is("9: below", x.set(what, -1), -1);
            Due.is("9: what it is", x.count(what + 2), most[what]);
            Due.is("9: the least", x.set(what, 0), most[what]);
        }
        Due.is("9: no such what", x.set(4, 0), -1);
        Due.is("9: no such what", x.set(-1, 0), -1);
        Due.is("9: no such what", x.set(Integer.MIN_VALUE, 0), -1);
    }

    private static void promise10Drives() {
        RattleAtFifty x = Due.car("p0501;p0511;p0501;r02;");
        Due.is("10: heard", x.drives(99), 12);
        Due.is("10: miles", x.count(1), 99);
        x.holds(0);
        x.wedges(1);
        x.outs(2);
        Due.is("10: nothing heard", x.drives(1), 0);
        Due.is("10: free ones", x.count(7), 1);
        Due.is("10: heard", x.drives(1), 3);
        Due.is("10: free ones", x.count(7), 3);
        Due.is("10: 0", x.drives(0), -1);
        Due.is("10: 100", x.drives(100), -1);
        Due.is("10: below", x.drives(Integer.MIN_VALUE), -1);
        Due.is("10: above", x.drives(Integer.MAX_VALUE), -1);
        for (int i = 0; i < 99; i++) {
            x.drives(99);
        }
        Due.is("10: miles", x.count(1), 9902);
        Due.is("10: too many", x.drives(98), -3);
        x.holds(0);
        Due.is("10: too many", x.drives(98), -3);
        Due.is("10: nothing changes", x.part(0, 4), 1);
        Due.is("10: just so many", x.drives(97), 2);
        Due.is("10: miles", x.count(1), 9999);
        Due.is("10: no more", x.drives(1), -3);
        Due.is("10: out of range ahead of too many", x.drives(0), -1);
    }
}
