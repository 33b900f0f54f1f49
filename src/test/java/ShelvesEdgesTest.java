/** The edges of SHELVES, of THE IMAGE, of count, and of an int at its ends. */
public final class ShelvesEdgesTest {
    private static final Scene NEW = Scene.of();

    public static void main(String[] args) {
        nothingAtFirst();
        shelvesThatAreThere();
        kinds();
        rowSizes();
        rowSorts();
        rowZeroAtFirst();
        lowestBits();
        places();
        elementThrows();
        copyStretches();
        copyOnItself();
        copySorts();
        costs();
        failures();
        image();
        imageAndShelves();
        count();
        intsAtTheirEnds();
        Due.ends();
    }

    private static void nothingAtFirst() {
        Doc.says("SHELVES 0 .. 7 each hold nothing (at first), a PART's KIND, a ROW");
        for (int d = 0; d <= 7; d++) {
            for (String call : new String[] {"cost(%d)", "toss(%d)", "adds(%d, 0, 1)", "put(%d, 0, 0)", "road(%d)",
                "which(%d, 0)", "two(%d, 0)", "tryNext(%d)", "likeliest(%d, 1)", "quiet(%d, 0)", "forged(%d)",
                "judge(%d)", "copy(%d, 0, %<d, 0, 0)"}) {
                NEW.refuses(String.format(call, d), -11);
            }
            NEW.refuses("ear(" + d + ", 1, 0, 0)", -1000000011L);
            NEW.refuses("element(" + d + ", 0)", Call.THROWS_STATE);
        }
    }

    private static void shelvesThatAreThere() {
        for (int d : new int[] {-1, 8, Integer.MIN_VALUE, Integer.MAX_VALUE}) {
            for (String call : new String[] {"cost(%d)", "toss(%d)", "adds(%d, 0, 1)", "put(%d, 0, 0)", "road(%d)",
                "which(%d, 0)", "two(%d, 0)", "tryNext(%d)", "likeliest(%d, 1)", "quiet(%d, 0)", "forged(%d)",
                "judge(%d)", "copy(%d, 0, 0, 0, 0)", "copy(0, 0, %d, 0, 0)", "keep(%d, 0, 0, 0)", "keep(%d, 1, 0, 0)",
                "row(%d, 0, 0)"}) {
                NEW.then("row(0, 0, 0)").refuses(String.format(call, d), -1);
            }
            NEW.refuses("ear(" + d + ", 1, 0, 0)", -1000000001L);
            NEW.refuses("element(" + d + ", 0)", Call.THROWS_ARGUMENT);
        }
        for (int d = 0; d <= 7; d++) {
            NEW.does("row(" + d + ", 0, 1)", 0);
            NEW.does("keep(" + d + ", 1, 0, 5)", 0);
            NEW.then("row(" + d + ", 0, 1)").asks("element(" + d + ", 0)", 0);
            NEW.then("keep(" + d + ", 1, 0, 5)").asks("cost(" + d + ")", 3);
            NEW.then("keep(" + d + ", 1, 0, 5)").asks("cost(" + (d + 1) % 8 + ")", -11);
        }
    }

    private static void kinds() {
        Doc.says("SHELF d gets: what = 0 nothing (the others do not matter); 1 a PART's KIND of KIND k with a FIGURE: 0. "
            + "-1.");
        Scene kept = Scene.of("keep(0, 1, 5, 4)", "1 bytes 7");
        for (String call : new String[] {"keep(0, -1, 0, 0)", "keep(0, 2, 0, 0)", "keep(0, 1, -1, 0)",
            "keep(0, 1, 8, 0)", "keep(0, 1, 0, -1)", "keep(0, 1, 0, 10)", "keep(1, 1, 8, 0)", "keep(1, 2, 0, 0)"}) {
            kept.refuses(call, -1);
        }
        for (String call : new String[] {"keep(0, 0, -1, -1)", "keep(0, 0, 8, 10)",
            "keep(0, 0, -2147483648, 2147483647)"}) {
            kept.does(call, 0);
            kept.then(call).asks("cost(0)", -11);
        }
        kept.then("keep(1, 0, 0, 0)").asks("put(1, 0, 0)", -11);
        kept.then("keep(1, 1, 7, 9)").asks("cost(1)", 18);
        kept.then("keep(1, 1, 0, 0)").asks("put(1, 0, 0)", -12);
        kept.then("row(0, 2, 1)").asks("cost(0)", -12);
        Doc.says("what is taken from a SHELF, stay there");
        kept.then("adds(0, 0, 1)").asks("cost(0)", 9);
        kept.then("adds(0, 0, 1)").does("adds(0, 0, 1)", 1);
        kept.then("adds(0, 0, 1)", "screws(0)").asks("toss(0)", 209);
        kept.then("adds(0, 0, 1)", "keep(0, 1, 0, 1)").asks("part(0, 1)", 4);
    }

    private static void rowSizes() {
        Doc.says("A ROW has a SORT (0 bytes, 1 shorts, 2 ints) and 0 .. 100 elements, 0 at first");
        Doc.says("SHELF d gets a ROW of a SORT: 0. -1 (n above 100); -14.");
        Scene held = Scene.of("0 ints 7 8 9");
        for (int n : new int[] {0, 1, 100}) {
            held.does("row(0, 2, " + n + ")", 0);
            held.then("row(0, 2, " + n + ")").refuses("element(0, " + n + ")", Call.THROWS_STATE);
            if (n > 0) {
                held.then("row(0, 2, " + n + ")").asks("element(0, " + (n - 1) + ")", 0);
            }
        }
        held.refuses("row(0, 2, 101)", -1);
        held.refuses("row(0, 2, 2147483647)", -1);
        held.refuses("row(0, 2, -1)", -14);
        held.refuses("row(0, 2, -2147483648)", -14);
    }

    private static void rowSorts() {
        for (int sort = 0; sort <= 2; sort++) {
            NEW.does("row(0, " + sort + ", 1)", 0);
        }
        for (int sort : new int[] {-1, 3, Integer.MIN_VALUE, Integer.MAX_VALUE}) {
            NEW.refuses("row(0, " + sort + ", 1)", -1);
            NEW.refuses("row(0, " + sort + ", -1)", -1);
        }
    }

    private static void rowZeroAtFirst() {
        Scene full = Scene.of("0 ints 7 8 9");
        Scene anew = full.then("row(0, 2, 4)");
        for (int i = 0; i < 4; i++) {
            anew.asks("element(0, " + i + ")", 0);
        }
        full.then("row(0, 2, 0)", "row(0, 2, 3)").asks("element(0, 2)", 0);
        full.then("keep(0, 0, 0, 0)", "row(0, 0, 3)").asks("element(0, 1)", 0);
        full.then("keep(0, 1, 0, 5)", "row(0, 1, 3)").asks("element(0, 0)", 0);
    }

    private static void lowestBits() {
        Doc.says("what is put in keeps its lowest bits");
        long[][] due = {{0, 127, 127}, {0, 128, -128}, {0, -128, -128}, {0, -129, 127}, {0, 255, -1}, {0, 256, 0},
            {0, Integer.MAX_VALUE, -1}, {0, Integer.MIN_VALUE, 0}, {1, 32767, 32767}, {1, 32768, -32768},
            {1, -32768, -32768}, {1, -32769, 32767}, {1, 65535, -1}, {1, 65536, 0}, {1, Integer.MAX_VALUE, -1},
            {1, Integer.MIN_VALUE, 0}, {2, Integer.MAX_VALUE, Integer.MAX_VALUE},
            {2, Integer.MIN_VALUE, Integer.MIN_VALUE}, {2, 65536, 65536}};
        for (long[] row : due) {
            Scene with = Scene.of("row(0, " + row[0] + ", 1)");
            with.does("put(0, 0, " + row[1] + ")", 0);
            with.then("put(0, 0, " + row[1] + ")").asks("element(0, 0)", row[2]);
        }
    }

    private static void places() {
        Doc.says("-13 a place that isn't there");
        Scene three = Scene.of("0 shorts 7 8 9");
        for (int i = 0; i < 3; i++) {
            three.does("put(0, " + i + ", 1)", 0);
            three.asks("element(0, " + i + ")", 7 + i);
            Scene put = three.then("put(0, " + i + ", 1)");
            for (int k = 0; k < 3; k++) {
                put.asks("element(0, " + k + ")", k == i ? 1 : 7 + k);
            }
        }
        for (int i : new int[] {-1, 3, 99, 100, Integer.MIN_VALUE, Integer.MAX_VALUE}) {
            three.refuses("put(0, " + i + ", 1)", -13);
            three.refuses("element(0, " + i + ")", Call.THROWS_STATE);
        }
        NEW.then("row(0, 0, 0)").refuses("put(0, 0, 1)", -13);
        NEW.then("row(0, 0, 100)").does("put(0, 99, 1)", 0);
        NEW.then("row(0, 0, 100)").refuses("put(0, 100, 1)", -13);
        NEW.then("keep(0, 1, 0, 5)").refuses("put(0, 0, 1)", -12);
        NEW.then("keep(0, 1, 0, 5)").refuses("put(0, 9, 1)", -12);
    }

    private static void elementThrows() {
        Doc.says("IllegalArgumentException: no such SHELF; IllegalStateException: no ROW, no such place.");
        Scene held = Scene.of("0 bytes 7", "keep(1, 1, 0, 5)");
        held.asks("element(0, 0)", 7);
        held.refuses("element(8, 0)", Call.THROWS_ARGUMENT);
        held.refuses("element(-1, -1)", Call.THROWS_ARGUMENT);
        held.refuses("element(1, 0)", Call.THROWS_STATE);
        held.refuses("element(2, 0)", Call.THROWS_STATE);
        held.refuses("element(0, 1)", Call.THROWS_STATE);
        held.refuses("element(0, -1)", Call.THROWS_STATE);
    }

    private static void copyStretches() {
        Doc.says("n elements of the ROW in SHELF d from i on come to that in SHELF e from j on: n. -1, -11 (either), -12 "
            + "(no ROWS of one SORT), -13 (n below 0, too).");
        Scene rows = Scene.of("0 ints 1 2 3", "1 ints 5 6");
        int[][] good = {{0, 0, 2}, {1, 0, 2}, {2, 1, 1}, {0, 1, 1}, {0, 0, 0}, {3, 2, 0}, {3, 0, 0}, {0, 2, 0}};
        for (int[] c : good) {
            String call = "copy(0, " + c[0] + ", 1, " + c[1] + ", " + c[2] + ")";
            rows.does(call, c[2]);
            for (int k = 0; k < 2; k++) {
                boolean within = k >= c[1] && k < c[1] + c[2];
                rows.then(call).asks("element(1, " + k + ")", within ? c[0] + k - c[1] + 1 : 5 + k);
            }
            for (int k = 0; k < 3; k++) {
                rows.then(call).asks("element(0, " + k + ")", 1 + k);
            }
        }
        int[][] wrong = {{0, 0, 3}, {2, 0, 2}, {3, 0, 1}, {0, 1, 2}, {0, 2, 1}, {4, 0, 0}, {0, 3, 0}, {-1, 0, 0},
            {0, -1, 0}, {-1, 0, 1}, {0, -1, 1}, {0, 0, -1}, {1, 1, -1}, {0, 0, Integer.MIN_VALUE},
            {1, 0, Integer.MAX_VALUE}, {0, 1, Integer.MAX_VALUE}, {Integer.MAX_VALUE, 0, 1}, {0, Integer.MAX_VALUE, 1},
            {Integer.MAX_VALUE, Integer.MAX_VALUE, Integer.MAX_VALUE}, {Integer.MIN_VALUE, 0, Integer.MIN_VALUE}};
        for (int[] c : wrong) {
            rows.refuses("copy(0, " + c[0] + ", 1, " + c[1] + ", " + c[2] + ")", -13);
        }
        Scene whole = Scene.of("row(0, 0, 100)", "row(1, 0, 100)", "put(0, 99, 7)");
        whole.does("copy(0, 0, 1, 0, 100)", 100);
        whole.then("copy(0, 0, 1, 0, 100)").asks("element(1, 99)", 7);
        whole.refuses("copy(0, 0, 1, 0, 101)", -13);
        whole.refuses("copy(0, 1, 1, 0, 100)", -13);
    }

    private static void copyOnItself() {
        Scene row = Scene.of("0 bytes 1 2 3 4");
        int[][] behind = {{1, 1, 2, 3}, {1, 2, 3, 4}, {2, 3, 4, 4}};
        String[] calls = {"copy(0, 0, 0, 1, 3)", "copy(0, 0, 0, 0, 4)", "copy(0, 1, 0, 0, 3)"};
        int[] many = {3, 4, 3};
        for (int c = 0; c < calls.length; c++) {
            row.does(calls[c], many[c]);
            for (int k = 0; k < 4; k++) {
                row.then(calls[c]).asks("element(0, " + k + ")", behind[c][k]);
            }
        }
        row.refuses("copy(0, 1, 0, 0, 4)", -13);
    }

    private static void copySorts() {
        Scene held = Scene.of("0 bytes 1", "1 shorts 1", "2 ints 1", "keep(3, 1, 0, 5)", "5 bytes 2", "6 shorts 2",
            "7 ints 2");
        for (int d = 0; d <= 2; d++) {
            for (int e = 0; e <= 2; e++) {
                if (d != e) {
                    held.refuses("copy(" + d + ", 0, " + e + ", 0, 1)", -12);
                    held.refuses("copy(" + d + ", 0, " + e + ", 0, 0)", -12);
                    held.refuses("copy(" + d + ", 0, " + e + ", 0, -1)", -12);
                }
            }
            held.does("copy(" + d + ", 0, " + (d + 5) + ", 0, 1)", 1);
            held.refuses("copy(" + d + ", 0, 3, 0, 0)", -12);
            held.refuses("copy(3, 0, " + d + ", 0, 0)", -12);
            held.refuses("copy(" + d + ", 0, 4, 0, 0)", -11);
            held.refuses("copy(4, 0, " + d + ", 0, 0)", -11);
        }
        held.refuses("copy(3, 0, 3, 0, 0)", -12);
        held.refuses("copy(3, 0, 4, 0, 0)", -11);
        held.refuses("copy(4, 0, 3, 0, 0)", -11);
    }

    private static void costs() {
        Doc.says("PART 3; LOOSE 1 less; TINNY FIGURE more; FROSTY twice a LOOSE's; HEAVY 6 more; DOUBLED a TINNY's and 2; "
            + "DEAD 1 more; DEEP a HEAVY's and FIGURE");
        int[] ofFigure0 = {3, 2, 3, 4, 9, 5, 4, 9};
        int[] ofFigure9 = {3, 2, 12, 4, 9, 14, 4, 18};
        for (int k = 0; k < 8; k++) {
            NEW.then("keep(0, 1, " + k + ", 0)").asks("cost(0)", ofFigure0[k]);
            NEW.then("keep(0, 1, " + k + ", 9)").asks("cost(0)", ofFigure9[k]);
        }
        NEW.then("row(0, 0, 0)").refuses("cost(0)", -12);
    }

    private static void failures() {
        Doc.says("The FAILURE of the one on SHELF d is thrown, and caught: its FIGURE; of TINNY ones 100 more (of DOUBLED, "
            + "too); of DOUBLED ones 200 plus their COST, in place of all that (FIGURE, too).");
        Doc.says("-15: DEAD ones, and any with FIGURE 0, have none.");
        int[] ofFigure1 = {1, 1, 101, 1, 1, 206, -15, 1};
        int[] ofFigure9 = {9, 9, 109, 9, 9, 214, -15, 9};
        for (int k = 0; k < 8; k++) {
            NEW.then("keep(0, 1, " + k + ", 0)").refuses("toss(0)", -15);
            NEW.then("keep(0, 1, " + k + ", 1)").asks("toss(0)", ofFigure1[k]);
            NEW.then("keep(0, 1, " + k + ", 9)").asks("toss(0)", ofFigure9[k]);
        }
        NEW.then("row(0, 0, 0)").refuses("toss(0)", -12);
    }

    private static void image() {
        Doc.says("THE IMAGE is taken: MILES.");
        Doc.says("THE IMAGE is RESTORED: MILES. -3 there is none.");
        NEW.refuses("restore()", -3);
        NEW.then("drives(9)").refuses("restore()", -3);
        NEW.does("image()", 0);
        NEW.then("image()").does("restore()", 0);
        NEW.then("image()", "restore()").does("restore()", 0);
        Scene car = Scene.of("road p0501;p1612;s60;c7;l3;r04;w0;d09;");
        car.does("image()", 9);
        Scene imaged = car.then("image()");
        imaged.asks("restore()", 9);
        Scene back = imaged.then("road p7939;t0;s10;c1;l0;r40;d50;o1;", "restore()");
        int[] due = {2, 9, 60, 7, 3, 4, 11, 2};
        for (int what = 0; what < due.length; what++) {
            back.asks("count(" + what + ")", due[what]);
        }
        // WEDGED for one DRIVE then, so it is again.
        back.asks("part(0, 4)", 2);
        back.then("drives(1)").asks("part(0, 4)", 0);
        back.refuses("part(2, 0)", -1);
        // THE IMAGE stays, and the last one counts; what is taken later than it does not change it.
        back.then("drives(50)").does("restore()", 9);
        back.then("drives(50)", "image()", "drives(1)").does("restore()", 59);
        back.then("screws(0)", "restore()").asks("part(0, 1)", 5);
        Scene far = Scene.of("101 x drives(99)");
        far.does("image()", 9999);
    }

    private static void imageAndShelves() {
        Doc.says("THE IMAGE: all that there is, but SHELVES (and THE IMAGE); RESTORED all is as it was then.");
        Doc.says("when THE IMAGE is RESTORED, SHELVES stay as they are");
        Scene imaged = Scene.of("0 bytes 7", "keep(1, 1, 0, 5)", "image()");
        Scene back = imaged.then("put(0, 0, 8)", "keep(1, 1, 5, 4)", "2 ints 9", "restore()");
        back.asks("element(0, 0)", 8);
        back.asks("cost(1)", 9);
        back.asks("element(2, 0)", 9);
        imaged.then("keep(0, 0, 0, 0)", "restore()").asks("put(0, 0, 0)", -11);
    }

    private static void count() {
        Doc.says("0 PARTS, 1 MILES, 2 PACE, 3 COLD, 4 LOAD, 5 RADIO, 6 all FIGURES, 7 FREE ones (bits); -1 for others.");
        Scene car = Scene.of("road p0911;p1822;p2733;p6401;s61;c8;l2;r17;h0;w1;o2;d06;w1;h0;");
        int[] due = {4, 6, 61, 8, 2, 17, 28, 8};
        for (int what = 0; what < due.length; what++) {
            car.asks("count(" + what + ")", due[what]);
        }
        car.refuses("count(-1)", -1);
        car.refuses("count(8)", -1);
        Scene seven = Scene.of("keep(0, 1, 0, 9)", "7 x adds(0, 0, 9)");
        seven.asks("count(6)", 63);
        seven.asks("count(7)", 127);
        seven.then("outs(6)").asks("count(7)", 63);
        seven.then("outs(0)").asks("count(7)", 126);
    }

    private static void intsAtTheirEnds() {
        Scene car = Scene.of("road p0501;p1601;w0;", "keep(0, 1, 0, 5)", "1 bytes", "image()");
        for (int end : new int[] {Integer.MIN_VALUE, Integer.MAX_VALUE}) {
            for (String call : new String[] {"part(%d, 0)", "part(0, %d)", "adds(0, %d, 1)", "adds(0, 0, %d)",
                "holds(%d)", "wedges(%d)", "outs(%d)", "screws(%d)", "set(%d, 0)", "set(0, %d)", "drives(%d)",
                "heard(%d, 50)", "heard(0, %d)", "loudest(%d)", "paces(%d, 0)", "paces(0, %d)", "silentFrom(%d, 50)",
                "silentFrom(0, %d)", "holdAll(%d)", "radio(%d)", "wanted(%d)", "which(1, %d)", "two(1, %d)",
                "worse(%d)", "gone(%d, 2)", "gone(1, %d)", "likeliest(1, %d)", "mends(%d)", "mechanic(%d, 1, 1, 0)",
                "mechanic(1, %d, 1, 0)", "mechanic(1, 1, %d, 0)", "mechanic(1, 1, 1, %d)", "worth(%d)", "quiet(1, %d)",
                "winters(%d, 1, 0)", "winters(1, 1, %d)", "count(%d)", "keep(0, %d, 0, 0)", "keep(0, 1, %d, 0)",
                "keep(0, 1, 0, %d)", "row(0, %d, 1)"}) {
                car.refuses(String.format(call, end), -1);
            }
            for (String call : new String[] {"halves(%d, 0)", "halves(1, %d)", "oneByOne(%d, 0)", "oneByOne(1, %d)",
                "ear(1, %d, 0, 0)", "ear(1, 1, %d, 0)", "ear(1, 1, 0, %d)"}) {
                car.refuses(String.format(call, end), -1000000001L);
            }
        }
    }
}
