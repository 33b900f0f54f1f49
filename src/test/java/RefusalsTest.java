/**
 * REFUSALS, promise by promise: each that a call names, in a car of many parts with THE IMAGE taken, with
 * nothing changed by it; of several that hold the first one as they are told at the call.
 */
public final class RefusalsTest {
    /** SHELVES: 0 nothing, 1 a KIND, 2 bytes, 3 shorts, 4 ints, 5 no elements, 6 DEAD, 7 a text. */
    private static final Scene CAR = Scene.of("road p0501;p1412;p2323;p4704;s51;c6;l1;r03;w0;h1;o2;d07;w3;", "image()",
        "drives(1)", "wedges(0)", "holds(1)", "set(0, 50)", "keep(1, 1, 5, 4)", "2 bytes 9 -128", "3 shorts 50 1",
        "4 ints 50 1 47", "row(5, 0, 0)", "keep(6, 1, 6, 3)");

    public static void main(String[] args) {
        Doc.says("REFUSALS (answers; nothing changes): -1 no such one, a number out of its range; -2 there is no room; "
            + "-3 it is not as it must be; -4 none.");
        Doc.says("Answers of several REFUSALS are the first one as they are told at the call.");
        Doc.says("Their REFUSALS: -11 nothing is held where something is wanted; -12 it is of another kind; -13 a place "
            + "that isn't there (a number or a size that isn't as told, too); -14 a size below 0; -15 a FAILURE that is "
            + "none.");
        promises2To4();
        promises5To10();
        promises11To18();
        promises19To21();
        promises22To25();
        promises26And27();
        promises28To30();
        promises31To34();
        promises35To37();
        promises38To41();
        promise42();
        promises43And44();
        noneIsNoRefusalOfNumbers();
        Due.ends();
    }

    private static void refused(long due, String... calls) {
        for (String call : calls) {
            CAR.refuses(call, due);
        }
    }

    private static void promises2To4() {
        Doc.says("The text in SHELF d: how many STATEMENTS; the FAULT. -1, -11, -12 (no ROW of bytes).");
        refused(-1, "road(-1)", "road(8)");
        refused(-11, "road(0)");
        refused(-12, "road(1)", "road(3)", "road(4)", "road(6)");
        refused(-1000, "road(2)", "road(5)");
        Doc.says("Of a PART: KIND (what 0), FIGURE (1), SEAT (2), WEIGHT (3), STATE (4), LOUD now (5), SECONDS (6), "
            + "LOOSENS (7). -1.");
        refused(-1, "part(-1, 0)", "part(4, 0)", "part(0, -1)", "part(0, 8)", "part(4, 8)");
        Doc.says("The one on SHELF d is a PART more: its number. -1, -11, -12 (a ROW), -2.");
        refused(-1, "adds(-1, 0, 1)", "adds(8, 0, 1)", "adds(1, -1, 1)", "adds(1, 4, 1)", "adds(1, 0, 0)",
            "adds(1, 0, 10)");
        refused(-1, "adds(0, 4, 1)", "adds(0, 0, 10)", "adds(2, -1, 1)", "adds(2, 0, 0)");
        refused(-11, "adds(0, 0, 1)");
        refused(-12, "adds(2, 0, 1)", "adds(5, 0, 1)", "adds(7, 0, 1)");
        Scene full = CAR.then("3 x adds(1, 0, 1)");
        full.refuses("adds(1, 0, 1)", -2);
        full.refuses("adds(1, 4, 1)", -1);
        full.refuses("adds(1, 0, 0)", -1);
        full.refuses("adds(8, 0, 1)", -1);
        full.refuses("adds(0, 0, 1)", -11);
        full.refuses("adds(2, 0, 1)", -12);
    }

    private static void promises5To10() {
        Doc.says("HELD: SECONDS. -1, -3 OUT.");
        refused(-1, "holds(-1)", "holds(4)");
        refused(-3, "holds(2)");
        Doc.says("WEDGED (anew): the STATE it was. -1, -3 OUT.");
        refused(-1, "wedges(-1)", "wedges(4)");
        refused(-3, "wedges(2)");
        Doc.says("OUT, or, if it is, FREE: the STATE then. -1.");
        refused(-1, "outs(-1)", "outs(4)");
        Doc.says("SCREWED: the next PART's FIGURE then; its own 0, if there is none. -1.");
        refused(-1, "screws(-1)", "screws(4)");
        Doc.says("PACE (what 0), COLD (1), LOAD (2), RADIO (3) becomes v: what it was. -1.");
        refused(-1, "set(-1, 0)", "set(4, 0)", "set(0, 100)", "set(1, 10)", "set(2, 6)", "set(3, 41)", "set(0, -1)",
            "set(1, -1)", "set(2, -1)", "set(3, -1)");
        Doc.says("A DRIVE: HEARD. -1, -3 MILES above 9999.");
        refused(-1, "drives(0)", "drives(100)");
        Scene far = Scene.of("road p0501;p0501;w0;h1;", "100 x drives(99)", "drives(90)", "wedges(0)", "holds(1)");
        far.refuses("drives(10)", -3);
        far.refuses("drives(99)", -3);
        far.refuses("drives(100)", -1);
        far.refuses("drives(0)", -1);
        far.does("drives(9)", 0);
    }

    private static void promises11To18() {
        Doc.says("HEARD at a SEAT at a PACE. -1.");
        refused(-1, "heard(-1, 50)", "heard(4, 50)", "heard(0, -1)", "heard(0, 100)", "heard(4, 100)");
        Doc.says("LOUDEST; -4. -1.");
        refused(-1, "loudest(-1)", "loudest(4)");
        Doc.says("PACES: how many (what 0), the least (1; -4), the greatest (2; -4). -1.");
        refused(-1, "paces(-1, 0)", "paces(4, 0)", "paces(0, -1)", "paces(0, 3)");
        Doc.says("SILENT FROM; -4. -1.");
        refused(-1, "silentFrom(-1, 0)", "silentFrom(4, 0)", "silentFrom(0, -1)", "silentFrom(0, 100)");
        Doc.says("HOLD ALL: bits (what 0), SECONDS (1). -1.");
        refused(-1, "holdAll(-1)", "holdAll(2)");
        Doc.says("RADIO WANTED; -4. -1.");
        refused(-1, "radio(-1)", "radio(4)");
        Doc.says("LOAD (what 0), COLD (1) WANTED; -4. -1.");
        refused(-1, "wanted(-1)", "wanted(2)");
    }

    private static void promises19To21() {
        Doc.says("WHICH by the ROW in SHELF d: PARTS (what 0, bits), how many (1). -1, -11, -12 (no ROW), -13 (an unwhole "
            + "pair, PACE not 0 .. 99, neither 0 nor 1).");
        Doc.says("WHICH TWO: how many (what 0), the first (1: 10 the lesser and the other; -4). -1, -11, -12, -13 "
            + "likewise.");
        Doc.says("TRY NEXT; -4. -1, -11, -12, -13 likewise.");
        refused(-1, "which(-1, 0)", "which(8, 0)", "two(-1, 0)", "two(8, 0)", "tryNext(-1)", "tryNext(8)");
        for (int d : new int[] {0, 1, 2, 3, 4}) {
            refused(-1, "which(" + d + ", -1)", "which(" + d + ", 2)", "two(" + d + ", -1)", "two(" + d + ", 2)");
        }
        refused(-11, "which(0, 0)", "two(0, 0)", "tryNext(0)");
        refused(-12, "which(1, 0)", "two(1, 0)", "tryNext(1)");
        refused(-13, "which(2, 0)", "two(2, 0)", "tryNext(2)", "which(4, 0)", "two(4, 1)", "tryNext(4)");
    }

    private static void promises22To25() {
        Doc.says("HALVES of a set (1 .. 127); part 0 above, 1 below the line. Refused as told: -1 (no such PART, too).");
        refused(-1000000001L, "halves(0, 0)", "halves(128, 0)", "halves(16, 0)", "halves(17, 1)", "halves(1, -1)",
            "halves(1, 2)");
        Doc.says("ONE BY ONE; part likewise. Refused as told.");
        refused(-1000000001L, "oneByOne(0, 0)", "oneByOne(128, 0)", "oneByOne(16, 0)", "oneByOne(17, 1)",
            "oneByOne(1, -1)", "oneByOne(1, 2)");
        Doc.says("WORSE. -1.");
        refused(-1, "worse(0)", "worse(128)", "worse(16)", "worse(17)");
        Doc.says("GONE; -4. -1.");
        refused(-1, "gone(0, 2)", "gone(10, 2)", "gone(1, 1)", "gone(1, 51)");
    }

    private static void promises26And27() {
        Doc.says("AN EAR by the ROW in SHELF d; part likewise. Refused as told: -1, -11, -12, -13 (more than 8, no SEAT).");
        Doc.says("AN EAR: the likeliest SEAT. -1, -11, -12, -13 likewise.");
        for (int d : new int[] {0, 1, 2, 4, 5}) {
            refused(-1000000001L, "ear(" + d + ", -1, 0, 0)", "ear(" + d + ", 10, 0, 0)", "ear(" + d + ", 1, -1, 0)",
                "ear(" + d + ", 1, 4, 0)", "ear(" + d + ", 1, 0, -1)", "ear(" + d + ", 1, 0, 2)");
            refused(-1, "likeliest(" + d + ", -1)", "likeliest(" + d + ", 10)");
        }
        refused(-1000000001L, "ear(-1, 1, 0, 0)", "ear(8, 1, 0, 0)");
        refused(-1000000011L, "ear(0, 1, 0, 0)");
        refused(-1000000012L, "ear(1, 1, 0, 0)");
        refused(-1000000013L, "ear(2, 1, 0, 0)", "ear(4, 1, 0, 1)", "ear(7, 1, 0, 1)");
        refused(-1, "likeliest(-1, 1)", "likeliest(8, 1)");
        refused(-11, "likeliest(0, 1)");
        refused(-12, "likeliest(1, 1)");
        refused(-13, "likeliest(2, 1)", "likeliest(4, 1)", "likeliest(7, 1)");
    }

    private static void promises28To30() {
        Doc.says("MENDS: how many (what 0; -4), all FIGURES (1). -1.");
        refused(-1, "mends(-1)", "mends(2)");
        Doc.says("MECHANIC by s and h tenths: DRIVES (what 0; -4), what they cost (1; -4). -1.");
        refused(-1, "mechanic(-1, 1, 1, 0)", "mechanic(10, 1, 1, 0)", "mechanic(1, 0, 1, 0)", "mechanic(1, 10, 1, 0)",
            "mechanic(1, 1, -1, 0)", "mechanic(1, 1, 100, 0)", "mechanic(1, 1, 1, -1)", "mechanic(1, 1, 1, 2)");
        Doc.says("WORTH IT; -4. -1.");
        refused(-1, "worth(-1)", "worth(10000)");
    }

    private static void promises31To34() {
        Doc.says("WEDGES by the ROW in SHELF d: PACES (what 0), the least (1; -4). -1, -11, -12 (no ROW), -13 (more "
            + "numbers than PARTS, no STATE).");
        for (int d : new int[] {0, 1, 2, 5}) {
            refused(-1, "quiet(" + d + ", -1)", "quiet(" + d + ", 2)");
        }
        refused(-1, "quiet(-1, 0)", "quiet(8, 0)");
        refused(-11, "quiet(0, 0)");
        refused(-12, "quiet(1, 0)");
        refused(-13, "quiet(2, 0)", "quiet(3, 0)", "quiet(4, 1)", "quiet(7, 0)");
        Doc.says("FORGED by the ROW in SHELF d; -4. -1, -11, -12.");
        refused(-1, "forged(-1)", "forged(8)");
        refused(-11, "forged(0)");
        refused(-12, "forged(1)");
        Doc.says("JUDGED by the ROW in SHELF d; -4. -1, -11, -12.");
        refused(-1, "judge(-1)", "judge(8)");
        refused(-11, "judge(0)");
        refused(-12, "judge(1)");
        Doc.says("WINTERS: DRIVES (what 0), HEARD (1). -1.");
        refused(-1, "winters(0, 1, 0)", "winters(21, 1, 0)", "winters(1, 1, -1)", "winters(1, 1, 2)");
    }

    private static void promises35To37() {
        Doc.says("THE IMAGE is RESTORED: MILES. -3 there is none.");
        Scene none = Scene.of("road p0501;p1412;w0;h1;", "drives(1)", "holds(1)");
        none.refuses("restore()", -3);
        Doc.says("0 PARTS, 1 MILES, 2 PACE, 3 COLD, 4 LOAD, 5 RADIO, 6 all FIGURES, 7 FREE ones (bits); -1 for others.");
        refused(-1, "count(-1)", "count(8)");
    }

    private static void promises38To41() {
        Doc.says("SHELF d gets: what = 0 nothing (the others do not matter); 1 a PART's KIND of KIND k with a FIGURE: 0. "
            + "-1.");
        refused(-1, "keep(-1, 0, 0, 0)", "keep(8, 0, 0, 0)", "keep(1, -1, 0, 0)", "keep(1, 2, 0, 0)",
            "keep(1, 1, -1, 0)", "keep(1, 1, 8, 0)", "keep(1, 1, 0, -1)", "keep(1, 1, 0, 10)", "keep(4, 1, 8, 0)",
            "keep(4, 2, 0, 0)");
        Doc.says("SHELF d gets a ROW of a SORT: 0. -1 (n above 100); -14.");
        refused(-1, "row(-1, 0, 1)", "row(8, 0, 1)", "row(4, -1, 1)", "row(4, 3, 1)", "row(4, 2, 101)");
        refused(-1, "row(-1, 0, -1)", "row(8, 0, -1)", "row(4, -1, -1)", "row(4, 3, -1)", "row(1, 3, 101)");
        refused(-14, "row(4, 2, -1)", "row(1, 0, -1)", "row(0, 0, -1)");
        Doc.says("Element i of the ROW becomes v: 0. -1, -11, -12, -13.");
        refused(-1, "put(-1, 0, 1)", "put(8, 0, 1)", "put(8, -1, 1)");
        refused(-11, "put(0, 0, 1)", "put(0, -1, 1)");
        refused(-12, "put(1, 0, 1)", "put(1, 100, 1)");
        refused(-13, "put(4, -1, 1)", "put(4, 3, 1)", "put(5, 0, 1)");
        Doc.says("Element i of the ROW. IllegalArgumentException: no such SHELF; IllegalStateException: no ROW, no such "
            + "place.");
        refused(Call.THROWS_ARGUMENT, "element(-1, 0)", "element(8, 0)", "element(8, -1)");
        refused(Call.THROWS_STATE, "element(0, 0)", "element(1, 0)", "element(4, -1)", "element(4, 3)",
            "element(5, 0)");
    }

    private static void promise42() {
        Doc.says("n elements of the ROW in SHELF d from i on come to that in SHELF e from j on: n. -1, -11 (either), -12 "
            + "(no ROWS of one SORT), -13 (n below 0, too).");
        refused(-1, "copy(-1, 0, 4, 0, 1)", "copy(8, 0, 4, 0, 1)", "copy(4, 0, -1, 0, 1)", "copy(4, 0, 8, 0, 1)",
            "copy(0, 0, 8, 0, 1)", "copy(8, 0, 0, 0, 1)", "copy(1, 0, 8, 0, 1)", "copy(4, -1, 8, 0, -1)");
        refused(-11, "copy(0, 0, 4, 0, 1)", "copy(4, 0, 0, 0, 1)", "copy(0, 0, 1, 0, 1)", "copy(1, 0, 0, 0, 1)",
            "copy(0, -1, 4, 0, -1)");
        refused(-12, "copy(1, 0, 4, 0, 1)", "copy(4, 0, 1, 0, 1)", "copy(3, 0, 4, 0, 1)", "copy(2, 0, 4, 0, -1)",
            "copy(4, -1, 3, 0, 1)", "copy(2, 9, 3, 0, 1)");
        refused(-13, "copy(4, -1, 4, 0, 1)", "copy(4, 0, 4, -1, 1)", "copy(4, 0, 4, 0, -1)", "copy(4, 0, 4, 0, 4)",
            "copy(2, 0, 5, 0, 1)", "copy(5, 0, 2, 0, 1)");
    }

    private static void promises43And44() {
        Doc.says("DEEP a HEAVY's and FIGURE. -1, -11, -12 (a ROW).");
        refused(-1, "cost(-1)", "cost(8)");
        refused(-11, "cost(0)");
        refused(-12, "cost(2)", "cost(5)", "cost(7)");
        Doc.says("in place of all that (FIGURE, too). -1, -11, -12 (a ROW); -15: DEAD ones, and any with FIGURE 0, have "
            + "none.");
        refused(-1, "toss(-1)", "toss(8)");
        refused(-11, "toss(0)");
        refused(-12, "toss(3)", "toss(4)", "toss(7)");
        refused(-15, "toss(6)");
        CAR.then("keep(6, 1, 5, 0)").refuses("toss(6)", -15);
    }

    /** Where a call may answer -4, a number out of its range is told all the same: it is not asked at all. */
    private static void noneIsNoRefusalOfNumbers() {
        Scene none = Scene.of("row(1, 0, 1)", "row(2, 0, 0)");
        none.asks("loudest(0)", -4);
        none.refuses("loudest(4)", -1);
        none.asks("worth(5)", -4);
        none.refuses("worth(10000)", -1);
        none.asks("paces(0, 1)", -4);
        none.refuses("paces(4, 1)", -1);
        none.asks("tryNext(2)", -4);
        none.refuses("tryNext(1)", -13);
        none.asks("two(2, 1)", -4);
        none.refuses("two(1, 1)", -13);
        none.refuses("two(1, 2)", -1);
        none.asks("mechanic(0, 1, 1, 0)", -4);
        none.refuses("mechanic(0, 1, 100, 0)", -1);
    }
}
