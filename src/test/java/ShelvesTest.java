/** Promises 38 to 44: shelves. */
public final class ShelvesTest {
    private static final int ILLEGAL_ARGUMENT = 1;
    private static final int ILLEGAL_STATE = 2;

    public static void main(String[] args) {
        promise38Keep();
        promise39Row();
        promise40Put();
        promise41Element();
        promise42Copy();
        promise43Cost();
        promise44Toss();
        Due.ends();
    }

    private static void promise38Keep() {
        RattleAtFifty x = new RattleAtFifty();
        Due.is("38: a kind", x.keep(0, 1, 7, 9), 0);
        Due.is("38: its cost", x.cost(0), 18);
        Due.is("38: what", x.keep(0, 2, 0, 0), -1);
        Due.is("38: what", x.keep(0, -1, 0, 0), -1);
        Due.is("38: kind", x.keep(0, 1, 8, 0), -1);
        Due.is("38: kind", x.keep(0, 1, -1, 0), -1);
        Due.is("38: figure", x.keep(0, 1, 0, 10), -1);
        Due.is("38: figure", x.keep(0, 1, 0, -1), -1);
        Due.is("38: shelf", x.keep(8, 1, 0, 0), -1);
        Due.is("38: shelf", x.keep(-1, 0, 0, 0), -1);
        Due.is("38: nothing changes", x.cost(0), 18);
        Due.is("38: nothing, the others do not matter", x.keep(0, 0, -7, 77), 0);
        Due.is("38: nothing", x.cost(0), -11);
        x.row(0, 0, 1);
        Due.is("38: in place of a row", x.keep(0, 1, 0, 0), 0);
        Due.is("38: no row", x.put(0, 0, 0), -12);
        Due.is("38: the last shelf", x.keep(7, 1, 0, 0), 0);
        Due.is("38: the last shelf", x.cost(7), 3);
    }

    private static void promise39Row() {
        RattleAtFifty x = new RattleAtFifty();
        Due.is("39: the most", x.row(0, 2, 100), 0);
        Due.is("39: the last place", x.put(0, 99, -5), 0);
        Due.is("39: n above", x.row(0, 2, 101), -1);
        Due.is("39: n below", x.row(0, 2, -1), -14);
        Due.is("39: n below", x.row(0, 2, Integer.MIN_VALUE), -14);
        Due.is("39: sort ahead of n", x.row(0, 3, -1), -1);
        Due.is("39: sort", x.row(0, -1, 1), -1);
        Due.is("39: shelf ahead of n", x.row(8, 0, -1), -1);
        Due.is("39: shelf", x.row(-1, 0, 1), -1);
        Due.is("39: nothing changes", x.element(0, 99), -5);
        Due.is("39: anew", x.row(0, 2, 100), 0);
        Due.is("39: 0 at first", x.element(0, 99), 0);
        x.put(0, 0, 7);
        x.row(0, 2, 1);
        Due.is("39: 0 at first", x.element(0, 0), 0);
        Due.is("39: empty", x.row(0, 0, 0), 0);
        Due.is("39: no place", x.put(0, 0, 0), -13);
        x.keep(1, 1, 2, 3);
        Due.is("39: in place of a kind", x.row(1, 0, 1), 0);
        Due.is("39: in place of a kind", x.cost(1), -12);
    }

    private static void promise40Put() {
        RattleAtFifty x = new RattleAtFifty();
        int[][] due = {{0, 128, -128}, {0, 255, -1}, {0, 256, 0}, {0, -129, 127}, {1, 32768, -32768},
            {1, 65535, -1}, {1, -32769, 32767}, {2, Integer.MIN_VALUE, Integer.MIN_VALUE},
            {2, Integer.MAX_VALUE, Integer.MAX_VALUE}};
        for (int[] row : due) {
            x.row(0, row[0], 1);
            Due.is("40: put", x.put(0, 0, row[1]), 0);
            Due.is("40: its lowest bits", x.element(0, 0), row[2]);
        }
        Due.is("40: place", x.put(0, 1, 0), -13);
        Due.is("40: place", x.put(0, -1, 0), -13);
        Due.is("40: shelf", x.put(8, 0, 0), -1);
        Due.is("40: shelf", x.put(-1, 0, 0), -1);
        Due.is("40: nothing there", x.put(1, 0, 0), -11);
        x.keep(1, 1, 0, 0);
        Due.is("40: a kind", x.put(1, 0, 0), -12);
    }

    private static void promise41Element() {
        RattleAtFifty x = new RattleAtFifty();
        Due.fill(x, 0, Due.INTS, 7, -9);
        Due.is("41: element", x.element(0, 1), -9);
        Due.is("41: shelf", thrown(x, 8, 0), ILLEGAL_ARGUMENT);
        Due.is("41: shelf", thrown(x, -1, 0), ILLEGAL_ARGUMENT);
        Due.is("41: nothing there", thrown(x, 1, 0), ILLEGAL_STATE);
        x.keep(1, 1, 0, 0);
        Due.is("41: a kind", thrown(x, 1, 0), ILLEGAL_STATE);
        Due.is("41: place", thrown(x, 0, 2), ILLEGAL_STATE);
        Due.is("41: place", thrown(x, 0, -1), ILLEGAL_STATE);
        Due.is("41: place", thrown(x, 0, Integer.MAX_VALUE), ILLEGAL_STATE);
        Due.is("41: nothing thrown", thrown(x, 0, 0), 0);
    }

    private static int thrown(RattleAtFifty x, int d, int i) {
        try {
            x.element(d, i);
        } catch (IllegalArgumentException e) {
            return ILLEGAL_ARGUMENT;
        } catch (IllegalStateException e) {
            return ILLEGAL_STATE;
        }
        return 0;
    }

    private static void promise42Copy() {
        RattleAtFifty x = new RattleAtFifty();
        Due.fill(x, 0, Due.SHORTS, 1, 2, 3, 4);
        Due.fill(x, 1, Due.SHORTS, 9, 9, 9);
        Due.is("42: copied", x.copy(0, 1, 1, 0, 2), 2);
        Due.is("42: first", x.element(1, 0), 2);
        Due.is("42: second", x.element(1, 1), 3);
        Due.is("42: third as it was", x.element(1, 2), 9);
        Due.is("42: on itself", x.copy(0, 0, 0, 1, 3), 3);
        for (int i = 0; i < 4; i++) {
            Due.is("42: element " + i, x.element(0, i), i == 0 ? 1 : i);
        }
        Due.is("42: none", x.copy(0, 4, 1, 3, 0), 0);
        int[][] wrong = {{0, 0, -1}, {-1, 0, 1}, {0, -1, 1}, {3, 0, 2}, {0, 2, 2}, {5, 0, 0}, {0, 4, 0},
            {1, 0, Integer.MAX_VALUE}, {Integer.MAX_VALUE, 0, 1}, {0, Integer.MAX_VALUE, Integer.MAX_VALUE},
            {0, 0, Integer.MIN_VALUE}};
        for (int[] w : wrong) {
            Due.is("42: places", x.copy(0, w[0], 1, w[1], w[2]), -13);
        }
        Due.is("42: shelf", x.copy(8, 0, 1, 0, 1), -1);
        Due.is("42: shelf", x.copy(0, 0, -1, 0, 1), -1);
        Due.is("42: nothing there", x.copy(2, 0, 1, 0, 1), -11);
        Due.is("42: nothing there", x.copy(0, 0, 2, 0, 1), -11);
        x.keep(3, 1, 0, 0);
        Due.is("42: nothing there, ahead of a kind", x.copy(3, 0, 2, 0, 1), -11);
        Due.is("42: a kind", x.copy(3, 0, 1, 0, 1), -12);
        Due.is("42: a kind", x.copy(0, 0, 3, 0, 1), -12);
        x.row(5, Due.BYTES, 4);
        Due.is("42: a kind, and bytes", x.copy(3, 0, 5, 0, 0), -12);
        Due.is("42: bytes, and a kind", x.copy(5, 0, 3, 0, 0), -12);
        x.row(4, Due.INTS, 4);
        Due.is("42: another sort, ahead of places", x.copy(0, 0, 4, 0, -1), -12);
    }

    private static void promise43Cost() {
        int[] due = {3, 2, 7, 4, 9, 9, 4, 13};
        RattleAtFifty x = new RattleAtFifty();
        for (int k = 0; k < due.length; k++) {
            x.keep(0, 1, k, 4);
            Due.is("43: cost of kind " + k, x.cost(0), due[k]);
        }
        Due.is("43: shelf", x.cost(8), -1);
        Due.is("43: shelf", x.cost(-1), -1);
        Due.is("43: nothing there", x.cost(1), -11);
        x.row(1, 0, 1);
        Due.is("43: a row", x.cost(1), -12);
    }

    private static void promise44Toss() {
        int[] due = {4, 4, 104, 4, 4, 209, -15, 4};
        RattleAtFifty x = new RattleAtFifty();
        for (int k = 0; k < due.length; k++) {
            x.keep(0, 1, k, 4);
            Due.is("44: toss of kind " + k, x.toss(0), due[k]);
            x.keep(0, 1, k, 0);
            Due.is("44: with figure 0, kind " + k, x.toss(0), -15);
        }
        int[] dueOfOne = {1, 1, 101, 1, 1, 206, -15, 1};
        for (int k = 0; k < dueOfOne.length; k++) {
            x.keep(0, 1, k, 1);
            Due.is("44: with figure 1, kind " + k, x.toss(0), dueOfOne[k]);
        }
        Due.is("44: shelf", x.toss(8), -1);
        Due.is("44: shelf", x.toss(-1), -1);
        Due.is("44: nothing there", x.toss(1), -11);
        x.row(1, 0, 1);
        Due.is("44: a row", x.toss(1), -12);
    }
}
