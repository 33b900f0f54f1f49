/** Counts answers that are as due, tells those that are not, and fills SHELVES for the tests. */
final class Due {
    static final int BYTES = 0;
    static final int SHORTS = 1;
    static final int INTS = 2;

    private static int passed = 0;
    private static int failed = 0;

    private Due() {
    }

    static void is(String call, long got, long want) {
        if (got == want) {
            passed++;
        } else {
            failed++;
            System.out.println(call + " answered " + got + ", due is " + want);
        }
    }

    static void holds(String what, boolean so) {
        is(what, so ? 1 : 0, 1);
    }

    static void ends() {
        System.out.println(passed + " passed, " + failed + " failed");
        if (failed > 0) {
            System.exit(1);
        }
    }

    /** A new object that has followed a text; the text is on SHELF 7. */
    static RattleAtFifty car(String text) {
        RattleAtFifty x = new RattleAtFifty();
        follow(x, text);
        return x;
    }

    static int follow(RattleAtFifty x, String text) {
        int[] bytes = new int[text.length()];
        for (int i = 0; i < bytes.length; i++) {
            bytes[i] = text.charAt(i);
        }
        fill(x, 7, BYTES, bytes);
        return x.road(7);
    }

    static void fill(RattleAtFifty x, int d, int sort, int... values) {
        is("row(" + d + ", " + sort + ", " + values.length + ")", x.row(d, sort, values.length), 0);
        for (int i = 0; i < values.length; i++) {
            is("put(" + d + ", " + i + ", " + values[i] + ")", x.put(d, i, values[i]), 0);
        }
    }

    /** All that count and part tell, in one text, to see whether something changed. */
    static String told(RattleAtFifty x) {
        StringBuilder all = new StringBuilder();
        for (int what = 0; what <= 7; what++) {
            all.append(x.count(what)).append(' ');
        }
        for (int p = 0; p < x.count(0); p++) {
            for (int what = 0; what <= 7; what++) {
                all.append(x.part(p, what)).append(' ');
            }
        }
        return all.toString();
    }
}
