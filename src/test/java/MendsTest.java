/** Promises 28 to 30: mends, a mechanic. */
public final class MendsTest {
    public static void main(String[] args) {
        promise28Mends();
        promise29Mechanic();
        promise30Worth();
        Due.ends();
    }

    private static void promise28Mends() {
        RattleAtFifty none = new RattleAtFifty();
        Due.is("28: no parts", none.mends(0), 0);
        Due.is("28: no parts", none.mends(1), 0);
        RattleAtFifty one = Due.car("p0501;r40;");
        Due.is("28: one, radio aside", one.mends(0), 1);
        Due.is("28: its figure", one.mends(1), 0);
        Due.is("28: nothing changes", one.part(0, 1), 5);
        // 5 and DEAD 3: screwed once, DEAD does not loosen.
        RattleAtFifty dead = Due.car("p0501;p6301;");
        Due.is("28: the next is dead", dead.mends(0), 1);
        Due.is("28: figures", dead.mends(1), 3);
        RattleAtFifty ever = Due.car("p0501;p0401;");
        Due.is("28: without end", ever.mends(0), -4);
        Due.is("28: figures behind 60", ever.mends(1), 1);
        RattleAtFifty turns = Due.car("p0501;p1401;");
        Due.is("28: without end", turns.mends(0), -4);
        Due.is("28: figures behind 60, an even number", turns.mends(1), 1);
        turns.screws(0);
        Due.is("28: figures behind 60, from now", turns.mends(1), 3);
        // At SEAT 0 the first is the loudest, at SEAT 1 the other one, which loosens nothing.
        RattleAtFifty seats = Due.car("p0501;p6001;p0511;p6001;");
        Due.is("28: two times", seats.mends(0), 2);
        RattleAtFifty atOnce = Due.car("p0111;p0001;");
        Due.is("28: at seat 0", atOnce.mends(0), 0);
        // The next sits far away: 5 at SEAT 0, then 1 at SEAT 3 is not heard.
        RattleAtFifty far = Due.car("p0501;p0031;");
        Due.is("28: loosened, but too far", far.mends(0), 1);
        Due.is("28: figures", far.mends(1), 1);
        RattleAtFifty held = Due.car("p0501;p0401;h1;");
        Due.is("28: as now free", held.mends(0), 1);
        Due.is("28: figures", held.mends(1), 5);
        Due.is("28: still held", held.part(1, 4), 1);
        RattleAtFifty slow = Due.car("p0501;s47;");
        Due.is("28: nothing heard", slow.mends(0), 0);
        Due.is("28: figures", slow.mends(1), 5);
        Due.is("28: what", one.mends(2), -1);
        Due.is("28: what", one.mends(-1), -1);
    }

    private static void promise29Mechanic() {
        RattleAtFifty x = new RattleAtFifty();
        Due.is("29: 1 less 1/16", x.mechanic(5, 9, 40, 0), 4);
        Due.is("29: cost", x.mechanic(5, 9, 40, 1), 160);
        Due.is("29: just so", x.mechanic(5, 5, 99, 0), 1);
        Due.is("29: just so", x.mechanic(9, 9, 99, 1), 99);
        Due.is("29: 1 less 0.8^9", x.mechanic(2, 8, 1, 0), 8);
        Due.is("29: 1 less 0.9^9 is above 0.6", x.mechanic(1, 6, 7, 0), 9);
        Due.is("29: cost", x.mechanic(1, 6, 7, 1), 63);
        Due.is("29: not 0.7", x.mechanic(1, 7, 7, 0), -4);
        Due.is("29: not 0.7", x.mechanic(1, 7, 7, 1), -4);
        Due.is("29: never", x.mechanic(0, 1, 0, 0), -4);
        int[][] wrong = {{-1, 1, 0, 0}, {10, 1, 0, 0}, {1, 0, 0, 0}, {1, 10, 0, 0}, {1, 1, -1, 0},
            {1, 1, 100, 0}, {1, 1, 0, 2}, {1, 1, 0, -1}};
        for (int[] w : wrong) {
            Due.is("29: out of range", x.mechanic(w[0], w[1], w[2], w[3]), -1);
        }
    }

    private static void promise30Worth() {
        RattleAtFifty x = Due.car("p0701;");
        Due.is("30: 7 a mile", x.worth(20), 2);
        Due.is("30: just so", x.worth(21), 3);
        Due.is("30: none", x.worth(6), 0);
        Due.is("30: none", x.worth(0), 0);
        Due.is("30: the most", x.worth(693), 99);
        Due.is("30: less", x.worth(692), 98);
        Due.is("30: no more than that", x.worth(9999), 99);
        Due.is("30: above", x.worth(10000), -1);
        Due.is("30: below", x.worth(-1), -1);
        x.set(3, 6);
        Due.is("30: with radio", x.worth(20), 20);
        x.set(3, 7);
        Due.is("30: nothing heard", x.worth(20), -4);
        Due.is("30: out of range first", x.worth(10000), -1);
    }
}
