/**
 * REFUSALS: each that a call names, in a car of many parts with THE IMAGE taken, with nothing changed by it;
 * of several that hold the first one as they are told at the call.
 */
public final class RefusalsTest {
    /** SHELVES: 0 nothing, 1 a KIND, 2 bytes, 3 shorts, 4 ints, 5 no elements, 6 DEAD, 7 a text. */
    private static final Scene CAR = Scene.of("road p0501;p1412;p2323;p4704;s51;c6;l1;r03;w0;h1;o2;d07;w3;", "image()",
        "drives(1)", "wedges(0)", "holds(1)", "set(0, 50)", "keep(1, 1, 5, 4)", "2 bytes 9 -128", "3 shorts 50 1",
        "4 ints 50 1 47", "row(5, 0, 0)", "keep(6, 1, 6, 3)");

    public static void main(String[] args) {
        Doc.says("REFUSALS (answers; nothing changes): -1 no such one, a number out of its range; -2 there is no room; "
            + "-3 it is not as it must be; -4 none.");
        Doc.says("Answers of several REFUSALS are the first one as they are told at the call.");
        theRoad();
        whatIsHeard();
        whichItIs();
        mendsAndAMechanic();
        wedgesAndToldDrives();
        theImage();
        shelves();
        noneIsNoRefusalOfNumbers();
        Due.ends();
    }

    private static void refused(long due, String... calls) {
        for (String call : calls) {
            CAR.refuses(call, due);
        }
    }

    private static void theRoad() {
        refused(-1, "road(-1)", "road(8)");
        refused(-11, "road(0)");
        refused(-12, "road(1)", "road(3)", "road(4)");
        refused(-1000, "road(2)", "road(5)");
        refused(-1, "part(-1, 0)", "part(4, 0)", "part(0, -1)", "part(0, 8)", "part(4, 8)");
        refused(-1, "adds(-1, 0, 1)", "adds(8, 0, 1)", "adds(1, -1, 1)", "adds(1, 4, 1)", "adds(1, 0, 0)",
            "adds(1, 0, 10)");
        refused(-1, "adds(0, 4, 1)", "adds(0, 0, 10)", "adds(2, -1, 1)", "adds(2, 0, 0)");
        refused(-11, "adds(0, 0, 1)");
        refused(-12, "adds(2, 0, 1)", "adds(5, 0, 1)", "adds(7, 0, 1)");
        Scene full = CAR.then("3 x adds(1, 0, 1)");
        full.refuses("adds(1, 0, 1)", -2);
        full.refuses("adds(1, 4, 1)", -1);
        full.refuses("adds(1, 0, 0)", -1);
        full.refuses("adds(8, 0, 1)", -1);
        full.refuses("adds(0, 0, 1)", -11);
        full.refuses("adds(2, 0, 1)", -12);
        refused(-1, "holds(-1)", "holds(4)", "wedges(-1)", "wedges(4)", "outs(-1)", "outs(4)", "screws(-1)",
            "screws(4)");
        refused(-3, "holds(2)", "wedges(2)");
        refused(-1, "set(-1, 0)", "set(4, 0)", "set(0, 100)", "set(1, 10)", "set(2, 6)", "set(3, 41)", "set(0, -1)",
            "set(1, -1)", "set(2, -1)", "set(3, -1)");
        refused(-1, "drives(0)", "drives(100)");
        Scene far = Scene.of("road p0501;p0501;w0;h1;", "100 x drives(99)", "drives(90)", "wedges(0)", "holds(1)");
        far.refuses("drives(10)", -3);
        far.refuses("drives(99)", -3);
        far.refuses("drives(100)", -1);
        far.refuses("drives(0)", -1);
        far.does("drives(9)", 0);
    }

    private static void whatIsHeard() {
        refused(-1, "heard(-1, 50)", "heard(4, 50)", "heard(0, -1)", "heard(0, 100)", "heard(4, 100)", "loudest(-1)",
            "loudest(4)", "paces(-1, 0)", "paces(4, 0)", "paces(0, -1)", "paces(0, 3)", "silentFrom(-1, 0)",
            "silentFrom(4, 0)", "silentFrom(0, -1)", "silentFrom(0, 100)", "holdAll(-1)", "holdAll(2)", "radio(-1)",
            "radio(4)", "wanted(-1)", "wanted(2)");
    }

    private static void whichItIs() {
        refused(-1, "which(-1, 0)", "which(8, 0)", "two(-1, 0)", "two(8, 0)", "tryNext(-1)", "tryNext(8)");
        for (int d : new int[] {0, 1, 2, 3, 4}) {
            refused(-1, "which(" + d + ", -1)", "which(" + d + ", 2)", "two(" + d + ", -1)", "two(" + d + ", 2)");
        }
        refused(-11, "which(0, 0)", "two(0, 0)", "tryNext(0)");
        refused(-12, "which(1, 0)", "two(1, 0)", "tryNext(1)");
        refused(-13, "which(2, 0)", "two(2, 0)", "tryNext(2)", "which(4, 0)", "two(4, 1)", "tryNext(4)");
        refused(-1000000001L, "halves(0, 0)", "halves(128, 0)", "halves(16, 0)", "halves(17, 1)", "halves(1, -1)",
            "halves(1, 2)", "oneByOne(0, 0)", "oneByOne(128, 0)", "oneByOne(16, 0)", "oneByOne(17, 1)",
            "oneByOne(1, -1)", "oneByOne(1, 2)");
        refused(-1, "worse(0)", "worse(128)", "worse(16)", "worse(17)");
        refused(-1, "gone(0, 2)", "gone(10, 2)", "gone(1, 1)", "gone(1, 51)");
        for (int d : new int[] {0, 1, 2, 4, 5}) {
            refused(-1000000001L, "ear(" + d + ", -1, 0, 0)", "ear(" + d + ", 10, 0, 0)", "ear(" + d + ", 1, -1, 0)",
                "ear(" + d + ", 1, 4, 0)", "ear(" + d + ", 1, 0, -1)", "ear(" + d + ", 1, 0, 2)");
            refused(-1, "likeliest(" + d + ", -1)", "likeliest(" + d + ", 10)");
        }
        refused(-1000000001L, "ear(-1, 1, 0, 0)", "ear(8, 1, 0, 0)");
        refused(-1000000011L, "ear(0, 1, 0, 0)");
        refused(-1000000012L, "ear(1, 1, 0, 0)");
        refused(-1000000013L, "ear(2, 1, 0, 0)", "ear(4, 1, 0, 1)", "ear(7, 1, 0, 1)");
        refused(-1, "likeliest(-1, 1)", "likeliest(8, 1)");
        refused(-11, "likeliest(0, 1)");
        refused(-12, "likeliest(1, 1)");
        refused(-13, "likeliest(2, 1)", "likeliest(4, 1)", "likeliest(7, 1)");
    }

    private static void mendsAndAMechanic() {
        refused(-1, "mends(-1)", "mends(2)", "mechanic(-1, 1, 1, 0)", "mechanic(10, 1, 1, 0)", "mechanic(1, 0, 1, 0)",
            "mechanic(1, 10, 1, 0)", "mechanic(1, 1, -1, 0)", "mechanic(1, 1, 100, 0)", "mechanic(1, 1, 1, -1)",
            "mechanic(1, 1, 1, 2)", "worth(-1)", "worth(10000)");
    }

    private static void wedgesAndToldDrives() {
        for (int d : new int[] {0, 1, 2, 5}) {
            refused(-1, "quiet(" + d + ", -1)", "quiet(" + d + ", 2)");
        }
        refused(-1, "quiet(-1, 0)", "quiet(8, 0)", "forged(-1)", "forged(8)", "judge(-1)", "judge(8)");
        refused(-11, "quiet(0, 0)", "forged(0)", "judge(0)");
        refused(-12, "quiet(1, 0)", "forged(1)", "judge(1)");
        refused(-13, "quiet(2, 0)", "quiet(3, 0)", "quiet(4, 1)", "quiet(7, 0)");
        refused(-1, "winters(0, 1, 0)", "winters(21, 1, 0)", "winters(1, 1, -1)", "winters(1, 1, 2)");
    }

    private static void theImage() {
        Scene none = Scene.of("road p0501;p1412;w0;h1;", "drives(1)", "holds(1)");
        none.refuses("restore()", -3);
        refused(-1, "count(-1)", "count(8)");
    }

    private static void shelves() {
        refused(-1, "keep(-1, 0, 0, 0)", "keep(8, 0, 0, 0)", "keep(1, -1, 0, 0)", "keep(1, 2, 0, 0)",
            "keep(1, 1, -1, 0)", "keep(1, 1, 8, 0)", "keep(1, 1, 0, -1)", "keep(1, 1, 0, 10)", "keep(4, 1, 8, 0)",
            "keep(4, 2, 0, 0)");
        refused(-1, "row(-1, 0, 1)", "row(8, 0, 1)", "row(4, -1, 1)", "row(4, 3, 1)", "row(4, 2, 101)");
        refused(-1, "row(-1, 0, -1)", "row(8, 0, -1)", "row(4, -1, -1)", "row(4, 3, -1)", "row(1, 3, 101)");
        refused(-14, "row(4, 2, -1)", "row(1, 0, -1)", "row(0, 0, -1)");
        refused(-1, "put(-1, 0, 1)", "put(8, 0, 1)");
        refused(-11, "put(0, 0, 1)", "put(0, -1, 1)");
        refused(-12, "put(1, 0, 1)", "put(1, 100, 1)");
        refused(-13, "put(4, -1, 1)", "put(4, 3, 1)", "put(5, 0, 1)");
        refused(Call.THROWS_ARGUMENT, "element(-1, 0)", "element(8, 0)", "element(8, -1)");
        refused(Call.THROWS_STATE, "element(0, 0)", "element(1, 0)", "element(4, -1)", "element(4, 3)",
            "element(5, 0)");
        refused(-1, "copy(-1, 0, 4, 0, 1)", "copy(8, 0, 4, 0, 1)", "copy(4, 0, -1, 0, 1)", "copy(4, 0, 8, 0, 1)",
            "copy(0, 0, 8, 0, 1)", "copy(8, 0, 0, 0, 1)", "copy(1, 0, 8, 0, 1)", "copy(4, -1, 8, 0, -1)");
        refused(-11, "copy(0, 0, 4, 0, 1)", "copy(4, 0, 0, 0, 1)", "copy(0, 0, 1, 0, 1)", "copy(1, 0, 0, 0, 1)",
            "copy(0, -1, 4, 0, -1)");
        refused(-12, "copy(1, 0, 4, 0, 1)", "copy(4, 0, 1, 0, 1)", "copy(3, 0, 4, 0, 1)", "copy(2, 0, 4, 0, -1)",
            "copy(4, -1, 3, 0, 1)", "copy(2, 9, 3, 0, 1)");
        refused(-13, "copy(4, -1, 4, 0, 1)", "copy(4, 0, 4, -1, 1)", "copy(4, 0, 4, 0, -1)", "copy(4, 0, 4, 0, 4)",
            "copy(2, 0, 5, 0, 1)", "copy(5, 0, 2, 0, 1)");
        refused(-1, "cost(-1)", "cost(8)", "toss(-1)", "toss(8)");
        refused(-11, "cost(0)", "toss(0)");
        refused(-12, "cost(2)", "cost(5)", "toss(3)", "toss(4)", "toss(7)");
        refused(-15, "toss(6)");
    }

    /** Where a call may answer -4, a number out of its range is told all the same: it is not asked at all. */
    private static void noneIsNoRefusalOfNumbers() {
        Scene none = Scene.of("row(1, 0, 1)", "row(2, 0, 0)");
        none.asks("loudest(0)", -4);
        none.refuses("loudest(4)", -1);
        none.asks("worth(5)", -4);
        none.refuses("worth(10000)", -1);
        none.asks("paces(0, 1)", -4);
        none.refuses("paces(4, 1)", -1);
        none.asks("tryNext(2)", -4);
        none.refuses("tryNext(1)", -13);
        none.asks("two(2, 1)", -4);
        none.refuses("two(1, 1)", -13);
        none.refuses("two(1, 2)", -1);
        none.asks("mechanic(0, 1, 1, 0)", -4);
        none.refuses("mechanic(0, 1, 100, 0)", -1);
    }
}
