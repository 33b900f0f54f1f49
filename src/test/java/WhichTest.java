import java.util.function.IntUnaryOperator;

/** Promises 19 to 27: which it is. */
public final class WhichTest {
    public static void main(String[] args) {
        promise19Which();
        promise20Two();
        promise21TryNext();
        promises19To21Refusals();
        promise22Halves();
        promise23OneByOne();
        promise24Worse();
        promise25Gone();
        promise26Ear();
        promise27Likeliest();
        Due.ends();
    }

    private static void promise19Which() {
        // PART, LOOSE, TINNY far away, FROSTY, HEAVY, DEAD, DOUBLED
        RattleAtFifty x = Due.car("p0501;p1401;p2131;p3601;p4201;p6901;p5101;");
        Due.fill(x, 0, Due.BYTES);
        Due.is("19: nothing told, all", x.which(0, 0), 127);
        Due.is("19: how many", x.which(0, 1), 7);
        Due.fill(x, 0, Due.BYTES, 50, 1);
        Due.is("19: all but dead", x.which(0, 0), 127 - 32);
        Due.fill(x, 0, Due.BYTES, 50, 1, 47, 0);
        Due.is("19: those of fifty", x.which(0, 0), 1 + 4 + 16 + 64);
        Due.is("19: how many", x.which(0, 1), 4);
        x.set(2, 2);
        Due.is("19: load as now", x.which(0, 0), 1 + 4 + 64);
        Due.fill(x, 0, Due.INTS, 50, 1, 30, 1, 29, 0);
        Due.is("19: loose and frosty", x.which(0, 0), 2 + 8);
        x.set(1, 4);
        Due.is("19: cold as now", x.which(0, 0), 2);
        x.outs(1);
        x.set(3, 40);
        Due.is("19: as if free, radio aside", x.which(0, 0), 2);
        Due.fill(x, 0, Due.SHORTS, 50, 0);
        Due.is("19: silent ones", x.which(0, 0), 8 + 16 + 32);
        Due.fill(x, 0, Due.SHORTS, 50, 0, 50, 1);
        Due.is("19: none could", x.which(0, 0), 0);
        Due.is("19: none could", x.which(0, 1), 0);
        Due.is("19: no parts", whichOfNone(), 0);
        RattleAtFifty y = Due.car("p0131;");
        Due.fill(y, 0, Due.BYTES, 50, 1);
        Due.is("19: loud by 1, wherever it sits", y.which(0, 0), 1);
    }

    private static int whichOfNone() {
        RattleAtFifty x = new RattleAtFifty();
        x.row(0, 0, 0);
        return x.which(0, 0);
    }

    private static void promise20Two() {
        RattleAtFifty x = Due.car("p0501;p1401;p6901;p5101;");
        Due.fill(x, 0, Due.BYTES, 50, 1, 40, 1);
        // LOOSE alone does that, so pairs with it are none.
        Due.is("20: none", x.two(0, 0), 0);
        Due.is("20: none", x.two(0, 1), -4);
        RattleAtFifty y = Due.car("p6901;p0501;p6901;p1401;");
        Due.fill(y, 0, Due.BYTES);
        Due.is("20: nothing told, each alone does", y.two(0, 0), 0);
        Due.fill(y, 0, Due.BYTES, 50, 0);
        Due.is("20: dead ones alone do", y.two(0, 0), 0);
        // Of the KINDS told no two do what neither does alone: LOOSE rattles wherever a PART does.
        Due.fill(y, 0, Due.BYTES, 48, 1, 60, 1, 20, 0);
        Due.is("20: loose alone does", y.two(0, 0), 0);
        Due.is("20: none", y.two(0, 1), -4);
    }

    private static void promise21TryNext() {
        RattleAtFifty x = Due.car("p0507;p1402;p6904;");
        Due.fill(x, 0, Due.BYTES);
        // Of 13: at 48 PART and LOOSE (9) rattle and DEAD (4) not; at 30 LOOSE (2) alone does.
        Due.is("21: most evenly", x.tryNext(0), 48);
        Due.fill(x, 0, Due.BYTES, 50, 1);
        Due.is("21: of those two", x.tryNext(0), 30);
        Due.fill(x, 0, Due.BYTES, 50, 1, 60, 0);
        Due.is("21: one alone", x.tryNext(0), -4);
        Due.fill(x, 0, Due.BYTES, 20, 1);
        Due.is("21: none", x.tryNext(0), -4);
        RattleAtFifty y = Due.car("p0507;p0503;");
        Due.fill(y, 0, Due.BYTES);
        Due.is("21: never parted", y.tryNext(0), 0);
        RattleAtFifty z = Due.car("p1503;p0503;p0003;");
        Due.fill(z, 0, Due.BYTES);
        // 3 of 9 at 30, 6 of 9 at 48: as even, the least counts.
        Due.is("21: of several the least", z.tryNext(0), 30);
        z.outs(0);
        Due.is("21: as if free", z.tryNext(0), 30);
    }

    private static void promises19To21Refusals() {
        RattleAtFifty x = Due.car("p0501;p1401;");
        refusals(x, "which", d -> x.which(d, 0));
        refusals(x, "two", d -> x.two(d, 0));
        refusals(x, "tryNext", x::tryNext);
        Due.is("19: what", x.which(6, 2), -1);
        Due.is("19: what", x.which(6, -1), -1);
        Due.is("20: what", x.two(6, 2), -1);
        Due.is("20: what", x.two(6, -1), -1);
    }

    private static void refusals(RattleAtFifty x, String call, IntUnaryOperator asks) {
        Due.is(call + " no such shelf", asks.applyAsInt(8), -1);
        Due.is(call + " no such shelf", asks.applyAsInt(-1), -1);
        Due.is(call + " nothing there", asks.applyAsInt(6), -11);
        x.keep(1, 1, 0, 1);
        Due.is(call + " a kind", asks.applyAsInt(1), -12);
        int[][] wrong = {{50}, {50, 1, 50}, {-1, 1}, {100, 1}, {50, 2}, {50, -1}, {50, 1, 50, 2}};
        for (int[] pairs : wrong) {
            Due.fill(x, 2, Due.INTS, pairs);
            Due.is(call + " not such pairs", asks.applyAsInt(2), -13);
        }
        Due.fill(x, 2, Due.INTS, 0, 0, 99, 0);
        Due.holds(call + " paces to their ends", asks.applyAsInt(2) != -13);
    }

    private static void promise22Halves() {
        RattleAtFifty x = Due.car("p0005;p0001;p0001;p0001;");
        fraction(x, 1, 0, 1);
        fraction(x, 3, 1, 1);
        fraction(x, 14, 5, 3);
        // 5, 1, 1, 1: joined 2, 3, 8: 13 by 8
        fraction(x, 15, 13, 8);
        x.outs(0);
        x.screws(1);
        fraction(x, 15, 13, 8);
        RattleAtFifty y = Due.car("p0002;p0002;p0002;p0002;");
        fraction(y, 15, 2, 1);
        for (int set : new int[] {0, 16, 17, 127, 128, -1, Integer.MIN_VALUE, Integer.MAX_VALUE}) {
            Due.is("22: set " + set, x.halves(set, 0), -1000000001L);
        }
        Due.is("22: part", x.halves(1, 2), -1000000001L);
        Due.is("22: part", x.halves(1, -1), -1000000001L);
        Due.is("22: no parts", new RattleAtFifty().halves(1, 0), -1000000001L);
    }

    private static void fraction(RattleAtFifty x, int set, long above, long below) {
        Due.is("22: above of " + set, x.halves(set, 0), above);
        Due.is("22: below of " + set, x.halves(set, 1), below);
    }

    private static void promise23OneByOne() {
        RattleAtFifty x = Due.car("p0001;p0005;p0001;p0001;");
        Due.is("23: one is known", x.oneByOne(2, 0), 0);
        Due.is("23: one is known", x.oneByOne(2, 1), 1);
        Due.is("23: two", x.oneByOne(3, 0), 1);
        Due.is("23: two", x.oneByOne(3, 1), 1);
        // 5 by 1, 1 by 2, 1 by 3, 1 by 3: 13 by 8
        Due.is("23: four", x.oneByOne(15, 0), 13);
        Due.is("23: four", x.oneByOne(15, 1), 8);
        RattleAtFifty y = Due.car("p0002;p0002;p0002;p0002;");
        // 2 + 4 + 6 + 6 of 8: 9 by 4
        Due.is("23: alike", y.oneByOne(15, 0), 9);
        Due.is("23: alike", y.oneByOne(15, 1), 4);
        for (int set : new int[] {0, 16, 128, -1, Integer.MIN_VALUE}) {
            Due.is("23: set " + set, x.oneByOne(set, 0), -1000000001L);
        }
        Due.is("23: part", x.oneByOne(1, 2), -1000000001L);
        Due.is("23: part", x.oneByOne(1, -1), -1000000001L);
    }

    private static void promise24Worse() {
        RattleAtFifty x = Due.car("p0002;p0002;p0002;p0002;");
        Due.is("24: 18 less 16", x.worse(15), 2);
        Due.is("24: 10 less 10", x.worse(7), 0);
        Due.is("24: one", x.worse(8), 0);
        for (int set : new int[] {0, 16, 128, -1}) {
            Due.is("24: set " + set, x.worse(set), -1);
        }
    }

    private static void promise25Gone() {
        RattleAtFifty x = new RattleAtFifty();
        Due.is("25: even odds are enough", x.gone(1, 2), 0);
        Due.is("25: 49 of 0.9^n", x.gone(1, 50), 37);
        Due.is("25: 2 of 1/2, just so", x.gone(5, 3), 1);
        Due.is("25: 32 of 1/2^5, just so", x.gone(5, 33), 5);
        Due.is("25: 33 of 1/2^n", x.gone(5, 34), 6);
        Due.is("25: 25 of 1/5^2, just so", x.gone(8, 26), 2);
        Due.is("25: 26 of 1/5^n", x.gone(8, 27), 3);
        Due.is("25: 10 of 1/10, just so", x.gone(9, 11), 1);
        Due.is("25: 11 of 1/10^n", x.gone(9, 12), 2);
        Due.is("25: 2 of 0.9^n", x.gone(1, 3), 7);
        int[][] wrong = {{0, 2}, {10, 2}, {1, 1}, {1, 51}, {-1, 2}, {Integer.MIN_VALUE, Integer.MAX_VALUE}};
        for (int[] w : wrong) {
            Due.is("25: out of range", x.gone(w[0], w[1]), -1);
        }
    }

    private static void promise26Ear() {
        RattleAtFifty x = new RattleAtFifty();
        Due.fill(x, 0, Due.BYTES);
        ear(x, 5, 2, 1, 4);
        Due.fill(x, 0, Due.BYTES, 2);
        // right 15, each other 5: 15 by 30
        ear(x, 5, 2, 1, 2);
        ear(x, 5, 0, 1, 6);
        ear(x, 0, 2, 0, 1);
        ear(x, 0, 1, 1, 3);
        Due.fill(x, 0, Due.SHORTS, 0, 1, 2, 3);
        ear(x, 0, 0, 0, 1);
        ear(x, 9, 3, 1, 4);
        Due.fill(x, 0, Due.INTS, 1, 1, 1, 1, 1, 1, 1, 1);
        // 27^8 by 27^8 and 3
        ear(x, 9, 1, 282429536481L, 282429536484L);
        ear(x, 9, 0, 1, 282429536484L);
        for (int[] w : new int[][] {{-1, 1, 0, 0}, {8, 1, 0, 0}, {0, -1, 0, 0}, {0, 10, 0, 0}, {0, 1, -1, 0},
                {0, 1, 4, 0}, {0, 1, 0, 2}, {0, 1, 0, -1}}) {
            Due.is("26: out of range", x.ear(w[0], w[1], w[2], w[3]), -1000000001L);
        }
        Due.is("26: nothing there", x.ear(1, 1, 0, 0), -1000000011L);
        x.keep(1, 1, 0, 0);
        Due.is("26: a kind", x.ear(1, 1, 0, 0), -1000000012L);
        x.row(1, 0, 9);
        Due.is("26: more than 8", x.ear(1, 1, 0, 0), -1000000013L);
        Due.fill(x, 1, Due.BYTES, 0, 4);
        Due.is("26: no seat", x.ear(1, 1, 0, 0), -1000000013L);
        Due.fill(x, 1, Due.BYTES, -1);
        Due.is("26: no seat", x.ear(1, 1, 0, 0), -1000000013L);
    }

    /** 27^8 by 27^8 + 3 is not in least terms: both can be divided by 3. */
    private static void ear(RattleAtFifty x, int r, int seat, long above, long below) {
        long a = above;
        long b = below;
        while (a > 0 && a % 3 == 0 && b % 3 == 0) {
            a /= 3;
            b /= 3;
        }
        Due.is("26: above, r " + r + ", seat " + seat, x.ear(0, r, seat, 0), a);
        Due.is("26: below, r " + r + ", seat " + seat, x.ear(0, r, seat, 1), b);
    }

    private static void promise27Likeliest() {
        RattleAtFifty x = new RattleAtFifty();
        Due.fill(x, 0, Due.BYTES, 3, 3, 1, 1, 2);
        Due.is("27: of several the least", x.likeliest(0, 7), 1);
        Due.is("27: errs mostly", x.likeliest(0, 1), 0);
        Due.is("27: errs always", x.likeliest(0, 0), 0);
        Due.fill(x, 0, Due.BYTES, 0, 3, 3);
        Due.is("27: the most told", x.likeliest(0, 3), 3);
        Due.is("27: the least told", x.likeliest(0, 2), 1);
        Due.fill(x, 0, Due.BYTES);
        Due.is("27: nothing told", x.likeliest(0, 9), 0);
        Due.fill(x, 0, Due.BYTES, 0, 1, 2, 3);
        Due.is("27: none could be", x.likeliest(0, 0), 0);
        Due.is("27: r", x.likeliest(0, 10), -1);
        Due.is("27: r", x.likeliest(0, -1), -1);
        Due.is("27: shelf", x.likeliest(8, 1), -1);
        Due.is("27: nothing there", x.likeliest(1, 1), -11);
        x.keep(1, 1, 0, 0);
        Due.is("27: a kind", x.likeliest(1, 1), -12);
        x.row(1, 0, 9);
        Due.is("27: more than 8", x.likeliest(1, 1), -13);
        Due.fill(x, 1, Due.BYTES, 4);
        Due.is("27: no seat", x.likeliest(1, 1), -13);
    }
}
