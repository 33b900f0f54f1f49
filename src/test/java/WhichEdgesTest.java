/** The edges of which it is: told pairs, HALVES and ONE BY ONE, GONE, AN EAR. */
public final class WhichEdgesTest {
    private static final Scene NEW = Scene.of();
    private static final long LONG_REFUSED = -1000000001L;
    /** Seven PARTS of WEIGHTS 1 .. 7, as they rise and as they fall. */
    private static final String RISING = "road p0001;p0002;p0003;p0004;p0005;p0006;p0007;";
    private static final String FALLING = "road p0007;p0006;p0005;p0004;p0003;p0002;p0001;";

    public static void main(String[] args) {
        pairs();
        whichByFigure();
        whichByPace();
        whichByColdAndLoad();
        whichAsIfFree();
        nothingTold();
        two();
        fewerThanTwo();
        partedMostEvenly();
        halves();
        oneByOne();
        setsOfParts();
        worse();
        gone();
        goneJustSo();
        ear();
        earThatCouldBeNone();
        earOfEight();
        likeliest();
        Due.ends();
    }

    private static void pairs() {
        Doc.says("-1, -11, -12 (no ROW), -13 (an unwhole pair, PACE not 0 .. 99, neither 0 nor 1)");
        String[] good = {"", " 0 0", " 99 0", " 0 1", " 99 1", " 50 1 50 1", " 50 1 47 0 60 0"};
        int[] fitting = {2, 2, 2, 0, 0, 1, 1};
        String[] wrong = {" 50", " 50 1 50", " -1 0", " 100 0", " 50 -1", " 50 2", " 50 1 -1 0", " 50 1 100 1",
            " 50 1 50 2", " 50 1 50 -1", " 50 1 50 1 50"};
        for (String sort : new String[] {"bytes", "shorts", "ints"}) {
            for (String pairs : wrong) {
                refusedPairs("4 " + sort + pairs);
            }
            for (int i = 0; i < good.length; i++) {
                Scene told = Scene.of("4 " + sort + good[i], "road p0501;p6501;");
                told.asks("which(4, 1)", fitting[i]);
                told.asks("two(4, 0)", 0);
            }
        }
        refusedPairs("4 ints -2147483648 0");
        refusedPairs("4 ints 2147483647 0");
        refusedPairs("4 ints 50 2147483647");
        refusedPairs("4 ints 306 1");
        Scene most = Scene.of("road p0501;", "row(4, 0, 100)");
        most.asks("which(4, 0)", 1);
        most.then("put(4, 99, 1)").asks("which(4, 0)", 0);
        most.then("put(4, 99, 2)").refuses("which(4, 0)", -13);
        most.then("row(4, 0, 99)").refuses("which(4, 0)", -13);
    }

    private static void refusedPairs(String row) {
        Scene told = Scene.of(row, "road p0501;p1501;");
        for (String call : new String[] {"which(4, 0)", "which(4, 1)", "two(4, 0)", "two(4, 1)", "tryNext(4)"}) {
            told.refuses(call, -13);
        }
    }

    private static void whichByFigure() {
        Doc.says("WHICH: a ROW of pairs, PACE and 1 it rattled (0 not), COLD and LOAD as now: PARTS (bits) of which "
            + "one alone, FREE, all others silent, would do just that (it rattles if LOUD is above 0); how many");
        Scene two = Scene.of("road p0001;p0101;", "1 bytes 50 1", "2 bytes 50 0");
        two.asks("which(1, 0)", 2);
        two.asks("which(2, 0)", 1);
        two.asks("which(1, 1)", 1);
        Scene seven = Scene.of("keep(0, 1, 0, 5)", "7 x adds(0, 3, 1)", "1 bytes 50 1");
        seven.asks("which(1, 0)", 127);
        seven.asks("which(1, 1)", 7);
        two.refuses("which(1, 2)", -1);
        two.refuses("which(1, -1)", -1);
    }

    private static void whichByPace() {
        Scene two = Scene.of("road p0501;p1501;");
        int[][] due = {{0, 0}, {29, 0}, {30, 2}, {47, 2}, {48, 3}, {53, 3}, {54, 2}, {99, 2}};
        for (int[] row : due) {
            two.then("1 bytes " + row[0] + " 1").asks("which(1, 0)", row[1]);
            two.then("1 bytes " + row[0] + " 0").asks("which(1, 0)", 3 - row[1]);
        }
        two.then("1 bytes 50 1 54 0").asks("which(1, 0)", 1);
        two.then("1 bytes 50 1 54 1").asks("which(1, 0)", 2);
        two.then("1 bytes 50 1 54 1 50 0").asks("which(1, 0)", 0);
        // PACES 0 and 1 are PACES, and no told 0 or 1, in their places.
        two.then("1 bytes 50 1 1 0 0 0").asks("which(1, 0)", 3);
        two.then("1 bytes 1 0 50 1 54 0").asks("which(1, 0)", 1);
        two.then("1 bytes 50 1 1 1").asks("which(1, 0)", 0);
    }

    private static void whichByColdAndLoad() {
        Scene cold = Scene.of("road p3501;", "1 bytes 50 1");
        cold.asks("which(1, 0)", 1);
        cold.then("set(1, 4)").asks("which(1, 0)", 0);
        Scene heavy = Scene.of("road p4301;p7301;", "1 bytes 50 1");
        heavy.then("set(2, 2)").asks("which(1, 0)", 3);
        heavy.then("set(2, 3)").asks("which(1, 0)", 0);
        heavy.then("set(2, 4)").asks("which(1, 0)", 0);
    }

    private static void whichAsIfFree() {
        // FREE, whatever its STATE is; LOUD, however far it sits and whatever hides it.
        Scene far = Scene.of("road p0131;r40;", "1 bytes 50 1");
        far.asks("which(1, 0)", 1);
        for (String call : new String[] {"holds(0)", "wedges(0)", "outs(0)"}) {
            far.then(call).asks("which(1, 0)", 1);
        }
    }

    private static void nothingTold() {
        Scene none = Scene.of("row(1, 0, 0)");
        none.asks("which(1, 0)", 0);
        none.asks("which(1, 1)", 0);
        none.asks("two(1, 0)", 0);
        none.asks("two(1, 1)", -4);
        none.asks("tryNext(1)", -4);
        Scene two = none.then("road p0501;p6501;");
        two.asks("which(1, 0)", 3);
        two.asks("two(1, 0)", 0);
    }

    private static void two() {
        Doc.says("WHICH TWO: pairs that together do just that (it rattles if one of both is LOUD above 0), neither of "
            + "them alone: how many; the first; -4");
        // Two that do it alone are no pair; nor are one that does and one that is silent.
        Scene cars = Scene.of("road p1501;p0501;p6501;p1001;p3501;");
        for (String pairs : new String[] {"50 1", "50 0", "50 1 40 1", "50 1 40 0", "50 0 40 1", "29 1", "29 0"}) {
            Scene told = cars.then("1 bytes " + pairs);
            told.asks("two(1, 0)", 0);
            told.asks("two(1, 1)", -4);
        }
        Scene told = cars.then("1 bytes 50 1");
        told.refuses("two(1, 2)", -1);
        told.refuses("two(1, -1)", -1);
    }

    private static void fewerThanTwo() {
        Doc.says("of several the least; -4 there are fewer than two");
        Scene three = Scene.of("road p0501;p1501;p6501;");
        three.then("1 bytes 50 1").asks("tryNext(1)", 30);
        three.then("1 bytes 50 1 40 0").asks("tryNext(1)", -4);
        three.then("1 bytes 29 1").asks("tryNext(1)", -4);
        three.then("1 bytes 40 0").asks("tryNext(1)", 48);
        Scene.of("road p0501;", "1 bytes").asks("tryNext(1)", -4);
        Scene.of("road p0501;p0501;", "1 bytes").asks("tryNext(1)", 0);
    }

    private static void partedMostEvenly() {
        Doc.says("TRY NEXT: the PACE (0 .. 99) at which those PARTS of WHICH that rattle and those that do not are "
            + "parted most evenly by WEIGHT (the lesser part's greatest)");
        // LOOSE and PART and DEAD: at 30 LOOSE alone rattles, at 48 PART, too.
        Scene.of("road p1505;p0501;p6503;", "1 bytes").asks("tryNext(1)", 30);
        Scene.of("road p1503;p0501;p6505;", "1 bytes").asks("tryNext(1)", 48);
        Scene.of("road p1504;p0501;p6504;", "1 bytes").asks("tryNext(1)", 30);
        Scene.of("road p1504;p0502;p6504;", "1 bytes").asks("tryNext(1)", 30);
        Scene.of("road p1503;p0502;p6504;", "1 bytes").asks("tryNext(1)", 48);
        // None of them is ever parted from the others: all PACES alike.
        Scene.of("road p6501;p6501;", "1 bytes").asks("tryNext(1)", 0);
        Scene.of("road p0501;p0009;", "1 bytes").asks("tryNext(1)", 48);
        Scene.of("road p3501;p0001;c4;", "1 bytes").asks("tryNext(1)", 0);
        Scene.of("road p3501;p0001;c5;", "1 bytes").asks("tryNext(1)", 30);
        Scene.of("road p4501;p0001;l5;", "1 bytes").asks("tryNext(1)", 0);
        Scene.of("road p4501;p0001;l4;", "1 bytes").asks("tryNext(1)", 48);
        Scene.of("road p4501;p0001;l4;o0;r40;", "1 bytes").asks("tryNext(1)", 48);
        // Only those of WHICH count: DEAD is none of them.
        Scene.of("road p1503;p0501;p6505;", "1 bytes 50 1").asks("tryNext(1)", 30);
    }

    /** A fraction of a set: above and below the line. */
    private static void fraction(Scene scene, String call, int set, long above, long below) {
        scene.asks(call + "(" + set + ", 0)", above);
        scene.asks(call + "(" + set + ", 1)", below);
    }

    private static void halves() {
        Doc.says("the fewest DRIVES in the mean till it is known: a fraction in least terms");
        Scene four = Scene.of("road p0001;p0002;p0004;p0009;");
        fraction(four, "halves", 1, 0, 1);
        fraction(four, "halves", 8, 0, 1);
        fraction(four, "halves", 3, 1, 1);
        // 1 + 2 = 3, 3 + 4 = 7: 10 by 7; with 9: 3 + 7 + 16 = 26 by 16.
        fraction(four, "halves", 7, 10, 7);
        fraction(four, "halves", 15, 13, 8);
        Scene seven = Scene.of("keep(0, 1, 0, 5)", "7 x adds(0, 0, 9)");
        // Seven alike: 18 + 18 + 18 + 27 + 36 + 63 = 180 of 63.
        fraction(seven, "halves", 127, 20, 7);
        fraction(seven, "halves", 15, 2, 1);
        // The least two are joined anew each time: 4 and 4 go ahead of 3 and 3 put together.
        fraction(Scene.of("road p0003;p0003;p0004;p0004;"), "halves", 15, 2, 1);
        fraction(Scene.of("road p0004;p0004;p0003;p0003;"), "halves", 15, 2, 1);
        fraction(Scene.of("road p0009;p0001;p0001;p0001;p0001;"), "halves", 31, 21, 13);
        // 1 .. 7: 3 + 6 + 9 + 12 + 16 + 28 = 74 of 28.
        fraction(Scene.of(RISING), "halves", 127, 37, 14);
        fraction(Scene.of(FALLING), "halves", 127, 37, 14);
        // Behind a question of a greater set.
        fraction(Scene.of(RISING, "halves(127, 0)", "oneByOne(127, 0)"), "halves", 15, 19, 10);
        fraction(Scene.of(RISING, "halves(127, 0)", "halves(96, 0)"), "halves", 3, 1, 1);
    }

    private static void oneByOne() {
        Doc.says("ONE BY ONE: likewise, if each DRIVE just one is HELD, the greatest WEIGHT first (of several the least "
            + "PART; the last one is known without)");
        Scene four = Scene.of("road p0001;p0002;p0004;p0009;");
        fraction(four, "oneByOne", 1, 0, 1);
        fraction(four, "oneByOne", 8, 0, 1);
        fraction(four, "oneByOne", 3, 1, 1);
        // 4 by 1, 2 by 2, 1 by 2: 10 of 7; 9 by 1, 4 by 2, 2 by 3, 1 by 3: 26 of 16.
        fraction(four, "oneByOne", 7, 10, 7);
        fraction(four, "oneByOne", 15, 13, 8);
        fraction(Scene.of("road p0009;p0004;p0002;p0001;"), "oneByOne", 15, 13, 8);
        Scene seven = Scene.of("keep(0, 1, 0, 5)", "7 x adds(0, 0, 9)");
        // Seven alike: 9 by 1, 2, 3, 4, 5, 6, 6: 27 by 7.
        fraction(seven, "oneByOne", 127, 27, 7);
        fraction(seven, "oneByOne", 96, 1, 1);
        // 7, 6 .. 1 by 1, 2, 3, 4, 5, 6, 6: 83 by 28.
        fraction(Scene.of(RISING), "oneByOne", 127, 83, 28);
        fraction(Scene.of(FALLING), "oneByOne", 127, 83, 28);
        fraction(Scene.of(RISING, "halves(127, 0)", "oneByOne(127, 0)"), "oneByOne", 15, 19, 10);
    }

    private static void setsOfParts() {
        Doc.says("HALVES of a set (1 .. 127); part 0 above, 1 below the line. Refused as told: -1 (no such PART, too).");
        Doc.says("Of longs -1 is -1000000001 (others likewise).");
        Scene seven = Scene.of("keep(0, 1, 0, 5)", "7 x adds(0, 0, 1)");
        Scene six = Scene.of("keep(0, 1, 0, 5)", "6 x adds(0, 0, 1)");
        for (String call : new String[] {"halves", "oneByOne"}) {
            seven.asks(call + "(1, 0)", 0);
            seven.asks(call + "(64, 1)", 1);
            six.asks(call + "(63, 1)", 3);
            for (int set : new int[] {0, -1, 128, 129, Integer.MIN_VALUE, Integer.MAX_VALUE}) {
                seven.refuses(call + "(" + set + ", 0)", LONG_REFUSED);
            }
            for (int set : new int[] {64, 65, 127}) {
                six.refuses(call + "(" + set + ", 0)", LONG_REFUSED);
                six.refuses(call + "(" + set + ", 1)", LONG_REFUSED);
            }
            seven.refuses(call + "(1, -1)", LONG_REFUSED);
            seven.refuses(call + "(1, 2)", LONG_REFUSED);
            NEW.refuses(call + "(1, 0)", LONG_REFUSED);
        }
    }

    private static void worse() {
        Doc.says("WORSE: what ONE BY ONE's mean times all WEIGHTS of the set is above HALVES' times these");
        Scene seven = Scene.of("keep(0, 1, 0, 5)", "7 x adds(0, 0, 9)");
        // 27 by 7 and 20 by 7, times 63.
        seven.asks("worse(127)", 63);
        seven.asks("worse(1)", 0);
        seven.asks("worse(3)", 0);
        seven.asks("worse(7)", 0);
        seven.asks("worse(15)", 9);
        Scene.of(RISING).asks("worse(127)", 9);
        Scene.of(RISING).asks("worse(15)", 0);
        for (int set : new int[] {0, -1, 128, Integer.MIN_VALUE, Integer.MAX_VALUE}) {
            seven.refuses("worse(" + set + ")", -1);
        }
        Scene six = Scene.of("keep(0, 1, 0, 5)", "6 x adds(0, 0, 9)");
        six.refuses("worse(64)", -1);
        six.refuses("worse(65)", -1);
        // 9 by 1, 2, 3, 4, 5, 5 is 180; joined 18, 18, 18, 36, 54 is 144.
        six.asks("worse(63)", 36);
        NEW.refuses("worse(1)", -1);
    }

    private static void gone() {
        Doc.says("GONE: it shows by s tenths (1 .. 9) of all DRIVES if it is there, it is there with even odds at first: "
            + "the fewest silent DRIVES (0 .. 60) behind which the odds that it is are 1 in t (2 .. 50) or less; -4");
        NEW.asks("gone(1, 2)", 0);
        NEW.asks("gone(9, 2)", 0);
        NEW.asks("gone(1, 50)", 37);
        NEW.asks("gone(9, 50)", 2);
        NEW.refuses("gone(0, 2)", -1);
        NEW.refuses("gone(10, 2)", -1);
        NEW.refuses("gone(1, 1)", -1);
        NEW.refuses("gone(1, 51)", -1);
        NEW.refuses("gone(-1, -1)", -1);
    }

    private static void goneJustSo() {
        // The odds are just 1 in t: 1 by 2 behind one silent DRIVE makes 1 in 3, and so on.
        int[][] justSo = {{5, 3, 1}, {5, 5, 2}, {5, 9, 3}, {5, 17, 4}, {5, 33, 5}, {8, 6, 1}, {8, 26, 2}, {9, 11, 1}};
        for (int[] row : justSo) {
            NEW.asks("gone(" + row[0] + ", " + row[1] + ")", row[2]);
            NEW.asks("gone(" + row[0] + ", " + (row[1] + 1) + ")", row[2] + 1);
        }
    }

    private static void ear() {
        Doc.says("AN EAR errs: it tells the SEAT right with r tenths (0 .. 9), else each other one alike: a ROW tells "
            + "SEATS (0 .. 3) it told (8 at most): how likely it is a SEAT (all alike likely ahead): a fraction in least "
            + "terms (0 by 1, if none could be); the SEAT that is likeliest, of several the least");
        Scene told = Scene.of("1 bytes 0", "2 bytes 3", "3 bytes");
        // Right with 9 tenths: 27 to 1 to 1 to 1.
        earIs(told, 1, 9, 0, 9, 10);
        earIs(told, 1, 9, 1, 1, 30);
        earIs(told, 2, 9, 3, 9, 10);
        earIs(told, 2, 9, 0, 1, 30);
        // Never right: 0 to 10 to 10 to 10.
        earIs(told, 1, 0, 0, 0, 1);
        earIs(told, 1, 0, 3, 1, 3);
        earIs(told, 3, 0, 0, 1, 4);
        earIs(told, 3, 9, 3, 1, 4);
        for (String call : new String[] {"ear(1, -1, 0, 0)", "ear(1, 10, 0, 0)", "ear(1, 5, -1, 0)",
            "ear(1, 5, 4, 0)", "ear(1, 5, 0, -1)", "ear(1, 5, 0, 2)"}) {
            told.refuses(call, LONG_REFUSED);
        }
        for (String row : new String[] {"bytes -1", "bytes 4", "shorts 0 4", "ints 3 -1", "ints 4 0", "ints 256"}) {
            Scene wrong = Scene.of("1 " + row);
            wrong.refuses("ear(1, 5, 0, 0)", -1000000013L);
            wrong.refuses("ear(1, 5, 0, 1)", -1000000013L);
            wrong.refuses("likeliest(1, 5)", -13);
        }
    }

    private static void earIs(Scene told, int d, int r, int seat, long above, long below) {
        told.asks("ear(" + d + ", " + r + ", " + seat + ", 0)", above);
        told.asks("ear(" + d + ", " + r + ", " + seat + ", 1)", below);
    }

    private static void earThatCouldBeNone() {
        Scene told = Scene.of("1 bytes 0 1 2", "2 bytes 0 1 2 3");
        for (int seat = 0; seat <= 3; seat++) {
            earIs(told, 1, 0, seat, seat == 3 ? 1 : 0, 1);
            earIs(told, 2, 0, seat, 0, 1);
            earIs(told, 2, 1, seat, 1, 4);
        }
        told.asks("likeliest(1, 0)", 3);
        told.asks("likeliest(2, 0)", 0);
    }

    private static void earOfEight() {
        Doc.says("-1, -11, -12, -13 (more than 8, no SEAT)");
        Scene eight = Scene.of("1 bytes 0 0 0 0 0 0 0 0");
        // 27^8 to 1 to 1 to 1; that and 3 can be divided by 3.
        earIs(eight, 1, 9, 0, 94143178827L, 94143178828L);
        earIs(eight, 1, 9, 1, 1, 282429536484L);
        earIs(eight, 1, 0, 0, 0, 1);
        earIs(eight, 1, 0, 2, 1, 3);
        eight.asks("likeliest(1, 9)", 0);
        Scene nine = Scene.of("1 bytes 0 0 0 0 0 0 0 0 0");
        nine.refuses("ear(1, 9, 0, 0)", -1000000013L);
        nine.refuses("likeliest(1, 9)", -13);
        Scene.of("row(1, 2, 8)").asks("likeliest(1, 9)", 0);
        Scene.of("row(1, 2, 9)").refuses("likeliest(1, 9)", -13);
        Scene.of("row(1, 2, 100)").refuses("likeliest(1, 9)", -13);
    }

    private static void likeliest() {
        Scene told = Scene.of("1 bytes 3 2", "2 bytes 3 2 3", "3 bytes", "4 bytes 0 1 3");
        told.asks("likeliest(1, 9)", 2);
        told.asks("likeliest(2, 9)", 3);
        told.asks("likeliest(3, 9)", 0);
        // At 2 tenths right is 6 to 8, at 3 it is 9 to 7: below 2.5 it is one that was not told.
        told.asks("likeliest(4, 2)", 2);
        told.asks("likeliest(4, 3)", 0);
        told.asks("likeliest(1, 0)", 0);
        for (int seat = 0; seat <= 3; seat++) {
            Scene.of("1 bytes " + seat).asks("likeliest(1, 9)", seat);
            Scene.of("1 bytes " + seat).asks("likeliest(1, 2)", seat == 0 ? 1 : 0);
        }
        told.refuses("likeliest(1, -1)", -1);
        told.refuses("likeliest(1, 10)", -1);
    }
}
