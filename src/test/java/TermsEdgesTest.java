/** The edges that "Terms" names, but for THE TEXT: ranges, LOUD, HEARD, a DRIVE, SCREWED. */
public final class TermsEdgesTest {
    private static final Scene NEW = Scene.of();

    public static void main(String[] args) {
        callsOfAnObject();
        parts();
        figures();
        seats();
        weights();
        states();
        settings();
        miles();
        loudOfPart();
        loudOfLoose();
        loudOfTinny();
        loudOfFrosty();
        loudOfHeavyAndDeep();
        loudOfDoubled();
        loudOfDead();
        secondsAndLoosens();
        sounds();
        heardZeroAtLeastEach();
        heardLessRadio();
        milesOfADrive();
        heldOverADrive();
        wedgedOverTwoDrives();
        wedgedAnew();
        outOverDrives();
        screwedNineAtMost();
        screwedRound();
        Due.ends();
    }

    private static void callsOfAnObject() {
        Doc.says("An object is used for at most 512 calls after it has been made");
        Scene.of("keep(0, 1, 0, 5)", "adds(0, 0, 1)", "509 x drives(1)").does("drives(1)", 5);
        Scene.of("511 x image()").does("restore()", 0);
    }

    private static void parts() {
        Doc.says("PARTS 0 .. 6 as they come (7 at most)");
        Doc.says("No PARTS.");
        NEW.asks("count(0)", 0);
        NEW.refuses("part(0, 0)", -1);
        Scene one = Scene.of("keep(1, 1, 3, 5)", "adds(1, 0, 1)");
        one.asks("part(0, 0)", 3);
        one.refuses("part(1, 0)", -1);
        Scene six = one.then("5 x adds(1, 0, 1)");
        six.refuses("part(6, 0)", -1);
        six.does("adds(1, 0, 1)", 6);
        Scene seven = six.then("adds(1, 0, 1)");
        seven.asks("count(0)", 7);
        seven.asks("part(6, 0)", 3);
        seven.refuses("part(7, 0)", -1);
        seven.refuses("part(-1, 0)", -1);
        seven.refuses("adds(1, 0, 1)", -2);
    }

    private static void figures() {
        Doc.says("each with a FIGURE (0 .. 9)");
        for (int figure : new int[] {0, 9}) {
            NEW.does("keep(0, 1, 0, " + figure + ")", 0);
            NEW.then("keep(0, 1, 0, " + figure + ")", "adds(0, 0, 1)").asks("part(0, 1)", figure);
        }
        NEW.refuses("keep(0, 1, 0, -1)", -1);
        NEW.refuses("keep(0, 1, 0, 10)", -1);
    }

    private static void seats() {
        Doc.says("a SEAT (0 .. 3)");
        Scene kept = Scene.of("keep(0, 1, 0, 5)");
        for (int seat : new int[] {0, 3}) {
            kept.does("adds(0, " + seat + ", 1)", 0);
            kept.then("adds(0, " + seat + ", 1)").asks("part(0, 2)", seat);
        }
        kept.refuses("adds(0, -1, 1)", -1);
        kept.refuses("adds(0, 4, 1)", -1);
    }

    private static void weights() {
        Doc.says("a WEIGHT (1 .. 9)");
        Scene kept = Scene.of("keep(0, 1, 0, 5)");
        for (int weight : new int[] {1, 9}) {
            kept.does("adds(0, 0, " + weight + ")", 0);
            kept.then("adds(0, 0, " + weight + ")").asks("part(0, 3)", weight);
        }
        kept.refuses("adds(0, 0, 0)", -1);
        kept.refuses("adds(0, 0, 10)", -1);
    }

    private static void states() {
        Doc.says("a STATE: 0 FREE (at first), 1 HELD, 2 WEDGED, 3 OUT");
        Scene one = Scene.of("road p0501;");
        one.asks("part(0, 4)", 0);
        one.then("holds(0)").asks("part(0, 4)", 1);
        one.then("wedges(0)").asks("part(0, 4)", 2);
        one.then("outs(0)").asks("part(0, 4)", 3);
    }

    private static void settings() {
        Doc.says("PACE (0 .. 99; 50 at first), COLD (0 .. 9; 5 at first), LOAD (0 .. 5; 0 at first), "
            + "RADIO (0 .. 40; 0 at first)");
        int[] most = {99, 9, 5, 40};
        int[] first = {50, 5, 0, 0};
        for (int what = 0; what < most.length; what++) {
            NEW.asks("count(" + (what + 2) + ")", first[what]);
            for (int v : new int[] {0, most[what]}) {
                NEW.does("set(" + what + ", " + v + ")", first[what]);
                NEW.then("set(" + what + ", " + v + ")").asks("count(" + (what + 2) + ")", v);
            }
            NEW.refuses("set(" + what + ", -1)", -1);
            NEW.refuses("set(" + what + ", " + (most[what] + 1) + ")", -1);
        }
        NEW.refuses("set(-1, 0)", -1);
        NEW.refuses("set(4, 0)", -1);
    }

    private static void miles() {
        Doc.says("MILES (0 .. 9999; 0 at first)");
        NEW.asks("count(1)", 0);
        Scene nearly = Scene.of("100 x drives(99)", "drives(97)");
        nearly.asks("count(1)", 9997);
        nearly.does("drives(2)", 0);
        nearly.refuses("drives(3)", -3);
        Scene far = nearly.then("drives(2)");
        far.asks("count(1)", 9999);
        far.refuses("drives(1)", -3);
    }

    /** LOUD of the one PART there at PACES, each with what is due. */
    private static void loud(String road, int[] paces, int[] due) {
        for (int i = 0; i < paces.length; i++) {
            Scene.of("road " + road, "set(0, " + paces[i] + ")").asks("part(0, 5)", due[i]);
        }
    }

    private static void loudOfPart() {
        Doc.says("PART FIGURE, if PACE is 48 .. 53, else 0");
        loud("p0501;", new int[] {0, 47, 48, 53, 54, 99}, new int[] {0, 0, 5, 5, 0, 0});
        loud("p0001;", new int[] {48, 53}, new int[] {0, 0});
    }

    private static void loudOfLoose() {
        Doc.says("LOOSE FIGURE, if PACE is 30 or more, else 0");
        loud("p1501;", new int[] {0, 29, 30, 31, 99}, new int[] {0, 0, 5, 5, 5});
    }

    private static void loudOfTinny() {
        Doc.says("TINNY twice a PART's");
        loud("p2901;", new int[] {0, 47, 48, 53, 54, 99}, new int[] {0, 0, 18, 18, 0, 0});
    }

    private static void loudOfFrosty() {
        Doc.says("FROSTY a LOOSE's, if COLD is 5 or more, else 0");
        loud("c5;p3501;", new int[] {0, 29, 30, 99}, new int[] {0, 0, 5, 5});
        loud("c4;p3501;", new int[] {0, 29, 30, 99}, new int[] {0, 0, 0, 0});
        loud("c9;p3501;", new int[] {29, 30}, new int[] {0, 5});
        loud("c0;p3501;", new int[] {29, 30}, new int[] {0, 0});
    }

    private static void loudOfHeavyAndDeep() {
        Doc.says("HEAVY a PART's less LOAD, 0 at least");
        Doc.says("DEEP twice a HEAVY's");
        int[] paces = {0, 47, 48, 53, 54};
        int[] silent = {0, 0, 0, 0, 0};
        loud("l0;p4301;", paces, new int[] {0, 0, 3, 3, 0});
        loud("l2;p4301;", paces, new int[] {0, 0, 1, 1, 0});
        loud("l3;p4301;", paces, silent);
        loud("l4;p4301;", paces, silent);
        loud("l5;p4001;", paces, silent);
        loud("l0;p7301;", paces, new int[] {0, 0, 6, 6, 0});
        loud("l2;p7301;", paces, new int[] {0, 0, 2, 2, 0});
        loud("l3;p7301;", paces, silent);
        loud("l4;p7301;", paces, silent);
    }

    private static void loudOfDoubled() {
        Doc.says("DOUBLED a TINNY's, 3 more if that is above 0 and PACE even");
        loud("p5101;", new int[] {46, 47, 48, 49, 52, 53, 54}, new int[] {0, 0, 5, 2, 5, 2, 0});
        loud("p5001;", new int[] {48, 49}, new int[] {0, 0});
        loud("p5901;", new int[] {0, 50, 51}, new int[] {0, 21, 18});
    }

    private static void loudOfDead() {
        Doc.says("DEAD 0; DEEP");
        loud("c9;p6901;", new int[] {0, 30, 48, 50, 53, 99}, new int[] {0, 0, 0, 0, 0, 0});
    }

    private static void secondsAndLoosens() {
        Doc.says("SECONDS to hold: PART 10; LOOSE 4 less; TINNY FIGURE more; FROSTY twice a LOOSE's; HEAVY 5 "
            + "more; DOUBLED a TINNY's and 2; DEAD as PART; DEEP as HEAVY");
        Doc.says("PART 1; LOOSE 2 more; DEAD 0; others as what they are under");
        int[] ofFigure0 = {10, 6, 10, 12, 15, 12, 10, 15};
        int[] ofFigure9 = {10, 6, 19, 12, 15, 21, 10, 15};
        int[] loosens = {1, 3, 1, 3, 1, 1, 0, 1};
        for (int k = 0; k < 8; k++) {
            Scene least = Scene.of("road p" + k + "001;");
            Scene most = Scene.of("road p" + k + "901;");
            least.asks("part(0, 0)", k);
            least.asks("part(0, 6)", ofFigure0[k]);
            most.asks("part(0, 6)", ofFigure9[k]);
            most.does("holds(0)", ofFigure9[k]);
            least.asks("part(0, 7)", loosens[k]);
            most.asks("part(0, 7)", loosens[k]);
        }
        NEW.refuses("keep(0, 1, -1, 5)", -1);
        NEW.refuses("keep(0, 1, 8, 5)", -1);
        Scene one = Scene.of("road p0501;");
        one.refuses("part(0, -1)", -1);
        one.refuses("part(0, 8)", -1);
    }

    private static void sounds() {
        Doc.says("A PART SOUNDS by its LOUD while it is FREE (else by 0)");
        Scene one = Scene.of("road p0501;");
        one.asks("heard(0, 50)", 5);
        for (String call : new String[] {"holds(0)", "wedges(0)", "outs(0)"}) {
            one.then(call).asks("heard(0, 50)", 0);
            one.then(call).asks("part(0, 5)", 5);
        }
        one.then("outs(0)", "outs(0)").asks("heard(0, 50)", 5);
    }

    private static void heardZeroAtLeastEach() {
        Doc.says("of all PARTS SOUND less how far the SEATS are apart (0 at least each), together");
        Scene.of("road p0431;").asks("heard(0, 50)", 1);
        Scene.of("road p0331;").asks("heard(0, 50)", 0);
        Scene.of("road p0231;").asks("heard(0, 50)", 0);
        Scene.of("road p0401;").asks("heard(3, 50)", 1);
        Scene.of("road p0301;").asks("heard(3, 50)", 0);
        // One that is too far away takes nothing from the other one.
        Scene.of("road p0501;p0231;").asks("heard(0, 50)", 5);
        Scene.of("road p0501;p0431;").asks("heard(0, 50)", 6);
        Scene.of("road p0501;p0931;h1;").asks("heard(0, 50)", 5);
    }

    private static void heardLessRadio() {
        Doc.says("together; less RADIO, 0 at least");
        Scene.of("road p0501;r04;").asks("heard(0, 50)", 1);
        Scene.of("road p0501;r05;").asks("heard(0, 50)", 0);
        Scene.of("road p0501;r06;").asks("heard(0, 50)", 0);
        Scene.of("road p2901;p2901;p2901;r40;").asks("heard(0, 50)", 14);
    }

    private static void milesOfADrive() {
        Doc.says("A DRIVE of MILES (1 .. 99): HEARD at SEAT 0 as it is; MILES are so many more");
        Scene one = Scene.of("road p0501;p0911;");
        one.does("drives(1)", 13);
        one.does("drives(99)", 13);
        one.then("drives(1)").asks("count(1)", 1);
        one.then("drives(99)").asks("count(1)", 99);
        one.refuses("drives(0)", -1);
        one.refuses("drives(-1)", -1);
        one.refuses("drives(100)", -1);
    }

    private static void heldOverADrive() {
        Doc.says("then each HELD PART is FREE again");
        Scene held = Scene.of("road p0501;p0301;p0101;h0;h2;");
        held.does("drives(1)", 3);
        Scene driven = held.then("drives(1)");
        driven.asks("count(7)", 7);
        driven.does("drives(1)", 9);
    }

    private static void wedgedOverTwoDrives() {
        Doc.says("each WEDGED one that was WEDGED for two DRIVES (this one, too) is FREE again");
        Scene wedged = Scene.of("road p0501;w0;");
        wedged.does("drives(1)", 0);
        Scene once = wedged.then("drives(1)");
        once.asks("part(0, 4)", 2);
        once.does("drives(1)", 0);
        Scene twice = once.then("drives(1)");
        twice.asks("part(0, 4)", 0);
        twice.does("drives(1)", 5);
        // Each by its own DRIVES.
        Scene other = Scene.of("road p0501;p0301;w0;d01;w1;d01;");
        other.asks("part(0, 4)", 0);
        other.asks("part(1, 4)", 2);
        other.then("drives(1)").asks("count(7)", 3);
    }

    private static void wedgedAnew() {
        Doc.says("WEDGED (anew)");
        Scene anew = Scene.of("road p0501;w0;d01;w0;");
        anew.then("drives(1)").asks("part(0, 4)", 2);
        anew.then("drives(1)", "drives(1)").asks("part(0, 4)", 0);
        Scene once = Scene.of("road p0501;w0;d01;");
        once.does("wedges(0)", 2);
        once.then("wedges(0)", "drives(1)").asks("part(0, 4)", 2);
        once.then("wedges(0)", "drives(1)", "drives(1)").asks("part(0, 4)", 0);
        once.then("holds(0)").does("wedges(0)", 1);
        once.then("holds(0)", "wedges(0)", "drives(1)").asks("part(0, 4)", 2);
        once.then("outs(0)", "outs(0)").does("wedges(0)", 0);
        once.then("outs(0)", "outs(0)", "wedges(0)", "drives(1)").asks("part(0, 4)", 2);
        Scene freed = once.then("drives(1)");
        freed.does("wedges(0)", 0);
        freed.then("wedges(0)", "drives(1)").asks("part(0, 4)", 2);
    }

    private static void outOverDrives() {
        Doc.says("OUT, or, if it is, FREE: the STATE then.");
        Scene out = Scene.of("road p0501;");
        out.does("outs(0)", 3);
        out.then("outs(0)").does("outs(0)", 0);
        out.then("outs(0)", "3 x drives(1)").asks("part(0, 4)", 3);
        out.then("holds(0)").does("outs(0)", 3);
        out.then("wedges(0)").does("outs(0)", 3);
        out.then("outs(0)").refuses("holds(0)", -3);
        out.then("outs(0)").refuses("wedges(0)", -3);
        out.then("outs(0)", "outs(0)").does("holds(0)", 10);
    }

    private static void screwedNineAtMost() {
        Doc.says("SCREWED: a PART's FIGURE is 0; the next PART's (round, if there is another one) is as much more "
            + "as it LOOSENS (9 at most)");
        Scene.of("road p0501;p0701;").does("screws(0)", 8);
        Scene.of("road p0501;p0801;").does("screws(0)", 9);
        Scene.of("road p0501;p0901;").does("screws(0)", 9);
        Scene.of("road p0501;p1501;").does("screws(0)", 8);
        Scene.of("road p0501;p1601;").does("screws(0)", 9);
        Scene.of("road p0501;p1701;").does("screws(0)", 9);
        Scene.of("road p0501;p1901;").does("screws(0)", 9);
        Scene.of("road p0501;p6401;").does("screws(0)", 4);
        Scene.of("road p0501;p1701;t0;").asks("part(1, 1)", 9);
        Scene.of("road p0501;p1701;t0;").asks("part(0, 1)", 0);
        Scene.of("road p0001;p0101;").does("screws(0)", 2);
    }

    private static void screwedRound() {
        Doc.says("the next PART's FIGURE then; its own 0, if there is none.");
        Scene one = Scene.of("road p0501;");
        one.does("screws(0)", 0);
        one.then("screws(0)").asks("count(6)", 0);
        one.then("screws(0)").does("screws(0)", 0);
        Scene two = Scene.of("road p0501;p0301;");
        two.does("screws(1)", 6);
        two.then("screws(1)").asks("count(6)", 6);
        Scene seven = Scene.of("road p0501;p0401;p0401;p0401;p0401;p0401;p1401;");
        seven.does("screws(6)", 6);
        seven.then("screws(6)").asks("part(0, 1)", 6);
        seven.does("screws(5)", 7);
        seven.refuses("screws(7)", -1);
        seven.refuses("screws(-1)", -1);
    }
}
