/** Promises 35 to 37: the image, what is told. */
public final class ImageTest {
    public static void main(String[] args) {
        promises35And36();
        promise37Count();
        Due.ends();
    }

    private static void promises35And36() {
        RattleAtFifty x = Due.car("p0501;p1512;p2324;s48;c7;l2;r03;w0;h1;o2;d07;h1;");
        String before = Due.told(x);
        Due.is("36: none", x.restore(), -3);
        Due.is("35: miles", x.image(), 7);
        Due.is("35: nothing changes", Due.told(x).equals(before) ? 1 : 0, 1);
        x.row(0, 1, 3);
        Due.follow(x, "p0501;t0;s10;c1;l0;r40;d50;d50;o2;w2;");
        Due.is("36: miles then", x.restore(), 7);
        Due.holds("36: all as it was", Due.told(x).equals(before));
        Due.is("36: shelves stay", x.put(0, 2, 1), 0);
        Due.is("36: the text stays", x.element(7, 0), 'p');
        Due.is("36: wedged for one drive", x.drives(1), 0);
        Due.is("36: so it is free now", x.part(0, 4), 0);
        Due.is("36: again", x.restore(), 7);
        Due.holds("36: again", Due.told(x).equals(before));
        x.drives(20);
        Due.is("35: anew", x.image(), 27);
        x.drives(20);
        Due.is("36: the last one", x.restore(), 27);
        RattleAtFifty y = new RattleAtFifty();
        Due.is("35: of nothing", y.image(), 0);
        Due.follow(y, "p0501;");
        Due.is("36: of nothing", y.restore(), 0);
        Due.is("36: no parts", y.count(0), 0);
        Due.is("36: of another object", new RattleAtFifty().restore(), -3);
    }

    private static void promise37Count() {
        RattleAtFifty x = Due.car("p0501;p1512;p2324;p0901;s48;c7;l2;r03;w0;h1;o2;d07;h1;");
        int[] due = {4, 7, 48, 7, 2, 3, 5 + 5 + 3 + 9, 8};
        for (int what = 0; what < due.length; what++) {
            Due.is("37: count(" + what + ")", x.count(what), due[what]);
        }
        Due.is("37: others", x.count(8), -1);
        Due.is("37: others", x.count(-1), -1);
        Due.is("37: others", x.count(Integer.MAX_VALUE), -1);
        Due.is("37: others", x.count(Integer.MIN_VALUE), -1);
    }
}
