/** The edges of what is heard: LOUDEST, PACES, SILENT FROM, HOLD ALL, what RADIO, LOAD or COLD would do. */
public final class HeardEdgesTest {
    private static final Scene NEW = Scene.of();

    public static void main(String[] args) {
        heard();
        loudestOfSeveral();
        loudestNone();
        paces();
        silentFrom();
        fewestToHold();
        leastOfSeveralToHold();
        noneToHold();
        radioWanted();
        loadWanted();
        coldWanted();
        bestSeat();
        Due.ends();
    }

    private static void heard() {
        Doc.says("HEARD at a SEAT at a PACE (all else as now)");
        Scene one = Scene.of("road p1501;s10;");
        one.asks("heard(0, 0)", 0);
        one.asks("heard(0, 29)", 0);
        one.asks("heard(0, 30)", 5);
        one.asks("heard(0, 99)", 5);
        one.asks("heard(3, 99)", 2);
        one.refuses("heard(-1, 50)", -1);
        one.refuses("heard(4, 50)", -1);
        one.refuses("heard(0, -1)", -1);
        one.refuses("heard(0, 100)", -1);
        Scene.of("road p3501;c4;").asks("heard(0, 50)", 0);
        Scene.of("road p3501;c5;").asks("heard(0, 50)", 5);
        Scene.of("road p4501;l5;").asks("heard(0, 50)", 0);
        Scene.of("road p4501;l4;").asks("heard(0, 50)", 1);
    }

    private static void loudestOfSeveral() {
        Doc.says("LOUDEST at a SEAT: the PART that SOUNDS by most there (as far as HEARD, RADIO aside), of several "
            + "the least; -4 none");
        Scene.of("road p0501;p0501;").asks("loudest(0)", 0);
        Scene.of("road p0401;p0501;").asks("loudest(0)", 1);
        Scene.of("road p0501;p0401;").asks("loudest(0)", 0);
        Scene.of("road p0401;p0501;p0501;").asks("loudest(0)", 1);
        // As far as HEARD: how far the SEATS are apart counts.
        Scene far = Scene.of("road p0401;p0631;");
        far.asks("loudest(0)", 0);
        far.asks("loudest(1)", 1);
        far.asks("loudest(3)", 1);
        Scene.of("road p0401;p0731;").asks("loudest(0)", 0);
        Scene.of("road p0401;p0831;").asks("loudest(0)", 1);
        Scene.of("road p0401;p0501;r40;").asks("loudest(0)", 1);
        Scene.of("road p0401;p0501;h1;").asks("loudest(0)", 0);
        Scene.of("road p0401;p0501;w1;").asks("loudest(0)", 0);
        Scene.of("road p0401;p0501;o1;").asks("loudest(0)", 0);
    }

    private static void loudestNone() {
        NEW.asks("loudest(0)", -4);
        Scene.of("road p0331;").asks("loudest(0)", -4);
        Scene.of("road p0431;").asks("loudest(0)", 0);
        Scene.of("road p0501;h0;").asks("loudest(0)", -4);
        Scene.of("road p0501;s47;").asks("loudest(0)", -4);
        Scene.of("road p0501;s48;").asks("loudest(0)", 0);
        Scene.of("road p0001;").asks("loudest(0)", -4);
        Scene.of("road p0101;").asks("loudest(0)", 0);
        Scene.of("road p0101;").asks("loudest(1)", -4);
        NEW.refuses("loudest(-1)", -1);
        NEW.refuses("loudest(4)", -1);
    }

    private static void paces() {
        Doc.says("PACES (0 .. 99) at which it is HEARD at a SEAT: how many; the least; the greatest; -4");
        pacesAre(Scene.of("road p0501;"), 0, 6, 48, 53);
        pacesAre(Scene.of("road p1501;"), 0, 70, 30, 99);
        pacesAre(Scene.of("road p5201;r06;"), 0, 3, 48, 52);
        pacesAre(Scene.of("road p0501;r04;"), 0, 6, 48, 53);
        pacesAre(Scene.of("road p0501;r05;"), 0, 0, -4, -4);
        pacesAre(Scene.of("road p0531;"), 3, 6, 48, 53);
        pacesAre(Scene.of("road p0331;"), 0, 0, -4, -4);
        pacesAre(Scene.of("road p0331;s00;"), 1, 6, 48, 53);
        pacesAre(NEW, 0, 0, -4, -4);
        for (String call : new String[] {"paces(-1, 0)", "paces(4, 0)", "paces(0, -1)", "paces(0, 3)"}) {
            Scene.of("road p0501;").refuses(call, -1);
        }
    }

    private static void pacesAre(Scene scene, int seat, int many, int least, int greatest) {
        scene.asks("paces(" + seat + ", 0)", many);
        scene.asks("paces(" + seat + ", 1)", least);
        scene.asks("paces(" + seat + ", 2)", greatest);
    }

    private static void silentFrom() {
        Doc.says("SILENT FROM a PACE: the least PACE that much or more at which nothing is HEARD at a SEAT; -4");
        Scene one = Scene.of("road p0501;");
        one.asks("silentFrom(0, 0)", 0);
        one.asks("silentFrom(0, 47)", 47);
        one.asks("silentFrom(0, 48)", 54);
        one.asks("silentFrom(0, 53)", 54);
        one.asks("silentFrom(0, 54)", 54);
        one.asks("silentFrom(0, 99)", 99);
        Scene loose = Scene.of("road p1501;");
        loose.asks("silentFrom(0, 29)", 29);
        loose.asks("silentFrom(0, 30)", -4);
        loose.asks("silentFrom(0, 99)", -4);
        loose.then("set(3, 4)").asks("silentFrom(0, 30)", -4);
        loose.then("set(3, 5)").asks("silentFrom(0, 30)", 30);
        loose.asks("silentFrom(3, 30)", -4);
        Scene.of("road p1301;").asks("silentFrom(3, 30)", 30);
        Scene.of("road p5201;r06;").asks("silentFrom(0, 48)", 49);
        for (String call : new String[] {"silentFrom(-1, 0)", "silentFrom(4, 0)", "silentFrom(0, -1)",
            "silentFrom(0, 100)"}) {
            one.refuses(call, -1);
        }
    }

    private static void fewestToHold() {
        Doc.says("HOLD ALL: the fewest FREE PARTS (bits, of several the least) to be HELD so that nothing is HEARD at "
            + "SEAT 0 now; SECONDS for these together");
        Scene three = Scene.of("road p0301;p0401;p2401;");
        // 3 + 4 + 8 are heard: what a RADIO of so much leaves to hold.
        int[][] due = {{15, 0, 0}, {14, 1, 10}, {12, 1, 10}, {11, 2, 10}, {10, 4, 14}, {7, 4, 14}, {6, 5, 24},
            {4, 5, 24}, {3, 6, 24}, {2, 7, 34}, {0, 7, 34}};
        for (int[] row : due) {
            Scene with = three.then("set(3, " + row[0] + ")");
            with.asks("holdAll(0)", row[1]);
            with.asks("holdAll(1)", row[2]);
        }
        three.refuses("holdAll(-1)", -1);
        three.refuses("holdAll(2)", -1);
    }

    private static void leastOfSeveralToHold() {
        Scene alike = Scene.of("road p0501;p0501;p0501;");
        alike.then("set(3, 10)").asks("holdAll(0)", 1);
        alike.then("set(3, 5)").asks("holdAll(0)", 3);
        alike.then("set(3, 4)").asks("holdAll(0)", 7);
        // The least bits, whatever the SECONDS: LOOSE (6) would be held faster than PART (10).
        Scene faster = Scene.of("road p0501;p1501;r05;");
        faster.asks("holdAll(0)", 1);
        faster.asks("holdAll(1)", 10);
        // The fewest go ahead of the least bits.
        Scene.of("road p0301;p0301;p0601;r06;").asks("holdAll(0)", 4);
    }

    private static void noneToHold() {
        NEW.asks("holdAll(0)", 0);
        NEW.asks("holdAll(1)", 0);
        Scene one = Scene.of("road p0501;");
        one.asks("holdAll(0)", 1);
        one.then("set(3, 4)").asks("holdAll(0)", 1);
        one.then("set(3, 5)").asks("holdAll(0)", 0);
        one.then("set(3, 5)").asks("holdAll(1)", 0);
        one.then("set(0, 47)").asks("holdAll(0)", 0);
        // FREE ones alone are held, and only those that are HEARD.
        Scene mixed = Scene.of("road p0501;p0501;p0501;p0331;p0501;h0;w1;o2;");
        mixed.asks("holdAll(0)", 16);
        mixed.asks("holdAll(1)", 10);
        Scene.of("road p0331;").asks("holdAll(0)", 0);
        Scene.of("road p0431;").asks("holdAll(0)", 1);
    }

    private static void radioWanted() {
        Doc.says("RADIO WANTED: the least (0 .. 40) by which nothing is HEARD at a SEAT; -4");
        Scene.of("road p2901;p2901;p0401;").asks("radio(0)", 40);
        Scene.of("road p2901;p2901;p0501;").asks("radio(0)", -4);
        Scene.of("road p2901;p2901;p0501;").asks("radio(1)", 17 + 17 + 4);
        Scene.of("road p2901;p2901;p0401;r40;").asks("radio(0)", 40);
        Scene.of("road p2901;p2901;p0501;r40;").asks("radio(0)", -4);
        Scene.of("road p0101;").asks("radio(0)", 1);
        Scene.of("road p0101;").asks("radio(1)", 0);
        NEW.asks("radio(3)", 0);
        NEW.refuses("radio(-1)", -1);
        NEW.refuses("radio(4)", -1);
    }

    private static void loadWanted() {
        Doc.says("LOAD, COLD WANTED: the least LOAD (0 .. 5), the greatest COLD (0 .. 9), by which nothing is HEARD at "
            + "SEAT 0 (all else as now); -4");
        Scene.of("road p4501;").asks("wanted(0)", 5);
        Scene.of("road p4601;").asks("wanted(0)", -4);
        Scene.of("road p4601;r01;").asks("wanted(0)", 5);
        Scene.of("road p4101;").asks("wanted(0)", 1);
        Scene.of("road p4001;").asks("wanted(0)", 0);
        Scene.of("road p4501;l5;").asks("wanted(0)", 5);
        Scene.of("road p4501;l3;").asks("wanted(0)", 5);
        Scene.of("road p7501;").asks("wanted(0)", 5);
        Scene.of("road p7601;").asks("wanted(0)", -4);
        Scene.of("road p7611;p7611;r02;").asks("wanted(0)", 5);
        Scene.of("road p7611;p7611;r01;").asks("wanted(0)", -4);
        Scene.of("road p4531;").asks("wanted(0)", 2);
        Scene.of("keep(0, 1, 4, 5)", "adds(0, 0, 1)").asks("wanted(0)", 5);
        Scene.of("road p4501;", "holds(0)").asks("wanted(0)", 0);
        Scene.of("road p4501;", "set(3, 1)").asks("wanted(0)", 4);
        NEW.asks("wanted(0)", 0);
        NEW.refuses("wanted(-1)", -1);
        NEW.refuses("wanted(2)", -1);
    }

    private static void coldWanted() {
        Scene.of("road p3501;").asks("wanted(1)", 4);
        Scene.of("road p3501;c4;").asks("wanted(1)", 4);
        Scene.of("road p3501;c9;").asks("wanted(1)", 4);
        Scene.of("road p3501;r05;").asks("wanted(1)", 9);
        Scene.of("road p3501;r04;").asks("wanted(1)", 4);
        Scene.of("road p3501;p0101;").asks("wanted(1)", -4);
        Scene.of("road p3501;p0101;r01;").asks("wanted(1)", 4);
        Scene.of("road p3331;").asks("wanted(1)", 9);
        Scene.of("road p3501;c0;s29;").asks("wanted(1)", 9);
        NEW.asks("wanted(1)", 9);
    }

    private static void bestSeat() {
        Doc.says("BEST SEAT to listen: where most is HEARD, of several the least");
        for (int seat = 0; seat <= 3; seat++) {
            Scene.of("road p05" + seat + "1;").asks("bestSeat()", seat);
        }
        NEW.asks("bestSeat()", 0);
        Scene.of("road p0501;p0531;").asks("bestSeat()", 0);
        Scene.of("road p0101;p0631;").asks("bestSeat()", 3);
        Scene.of("road p0211;p0221;").asks("bestSeat()", 1);
        Scene.of("road p0531;r04;").asks("bestSeat()", 3);
        Scene.of("road p0531;r05;").asks("bestSeat()", 0);
        Scene.of("road p0531;s47;").asks("bestSeat()", 0);
        Scene.of("road p0531;h0;").asks("bestSeat()", 0);
    }
}
