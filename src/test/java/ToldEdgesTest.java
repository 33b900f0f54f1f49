/** The edges of mends, a mechanic, WORTH IT, and of told drives: WEDGES, FORGED, JUDGED, WINTERS. */
public final class ToldEdgesTest {
    private static final Scene NEW = Scene.of();

    public static void main(String[] args) {
        mendsTillNothingIsHeard();
        mendsWithoutEnd();
        mechanic();
        mechanicJustSo();
        worth();
        worthNever();
        wedgesNumbers();
        wedgesSkipped();
        wedgesSilent();
        forged();
        forgedSkipped();
        forgedAtTheLastPace();
        judged();
        judgedSkipped();
        judgedManyDrives();
        winters();
        wintersFromNow();
        Due.ends();
    }

    private static void mends(Scene scene, int times, int figures) {
        scene.asks("mends(0)", times);
        scene.asks("mends(1)", figures);
    }

    private static void mendsTillNothingIsHeard() {
        Doc.says("MENDS: the LOUDEST at SEAT 0 is SCREWED again and again: how many times till nothing is HEARD there "
            + "(RADIO aside, as now FREE)");
        mends(NEW, 0, 0);
        mends(Scene.of("road p0501;"), 1, 0);
        mends(Scene.of("road p0501;r40;"), 1, 0);
        mends(Scene.of("road p0501;s47;"), 0, 5);
        mends(Scene.of("road p0501;s48;"), 1, 0);
        mends(Scene.of("road p0501;h0;"), 0, 5);
        mends(Scene.of("road p0501;w0;"), 0, 5);
        mends(Scene.of("road p0501;o0;"), 0, 5);
        mends(Scene.of("road p0331;"), 0, 3);
        mends(Scene.of("road p0431;"), 1, 0);
        // The other one loosens, but is not FREE, or too far away to be HEARD.
        mends(Scene.of("road p0501;p0401;h1;"), 1, 5);
        mends(Scene.of("road p0501;p0231;"), 1, 3);
        // 3 at SEAT 3 is just not HEARD; loosened it is, until it loosens the first by 1 and that it by 1.
        mends(Scene.of("road p0501;p0331;"), 3, 1);
        mends(Scene.of("road p0501;p6901;"), 1, 9);
        // As it is now, not as it was with the last text.
        mends(Scene.of("keep(0, 1, 0, 5)", "adds(0, 0, 1)"), 1, 0);
        mends(Scene.of("road p0501;p6901;", "holds(0)"), 0, 14);
        mends(Scene.of("road p0501;p6901;", "screws(0)"), 0, 9);
        for (String call : new String[] {"mends(-1)", "mends(2)"}) {
            Scene.of("road p0501;").refuses(call, -1);
        }
    }

    private static void mendsWithoutEnd() {
        Doc.says("-4 if 60 times are not enough; all FIGURES together then (or behind 60)");
        // Two PARTS at SEAT 0 loosen each other for ever; SCREWED by hand 60 times all FIGURES are as told.
        String[] roads = {"p0501;p0401;", "p0901;p1901;", "p2501;p3301;p0201;", "p1901;p1801;p1701;p1601;"};
        for (String road : roads) {
            RattleAtFifty x = new RattleAtFifty();
            Due.follow(x, road);
            for (int times = 0; times < 60; times++) {
                Due.holds("still heard at " + times, x.loudest(0) >= 0);
                x.screws(x.loudest(0));
            }
            Due.holds("still heard at 60", x.loudest(0) >= 0);
            mends(Scene.of("road " + road), -4, x.count(6));
        }
        // These two are not the same behind 59 or 61 times as behind 60.
        mends(Scene.of("road p0501;p1501;"), -4, 1);
        mends(Scene.of("road p0501;p1501;t0;"), -4, 3);
        // The longest ways to an end that a search through many cars found.
        mends(Scene.of("road p5101;p2811;p1511;p1801;p1831;p1221;p7201;"), 31, 3);
        mends(Scene.of("road l1;p0301;p5331;p5321;p5411;p5401;p7801;p2811;"), 38, 1);
    }

    private static void mechanic() {
        Doc.says("MECHANIC: he comes along on n DRIVES (0 .. 9), each costs c (0 .. 99), and hears it by s tenths "
            + "(0 .. 9) each: the fewest DRIVES in which he hears it with h tenths (1 .. 9) or more odds; -4; what these "
            + "cost");
        // 1 less 0.9^9 is 0.612.
        mechanicIs(1, 6, 99, 9, 891);
        mechanicIs(1, 7, 99, -4, -4);
        mechanicIs(1, 9, 0, -4, -4);
        // 1 less 0.8^9 is 0.866, 1 less 0.8^7 is 0.790 and less 0.8^8 is 0.832.
        mechanicIs(2, 8, 10, 8, 80);
        mechanicIs(2, 9, 10, -4, -4);
        mechanicIs(3, 9, 1, 7, 7);
        mechanicIs(0, 1, 0, -4, -4);
        mechanicIs(0, 9, 99, -4, -4);
        mechanicIs(9, 1, 0, 1, 0);
        for (String call : new String[] {"mechanic(-1, 1, 0, 0)", "mechanic(10, 1, 0, 0)", "mechanic(1, 0, 0, 0)",
            "mechanic(1, 10, 0, 0)", "mechanic(1, 1, -1, 0)", "mechanic(1, 1, 100, 0)", "mechanic(1, 1, 0, -1)",
            "mechanic(1, 1, 0, 2)", "mechanic(0, 1, 100, 1)"}) {
            NEW.refuses(call, -1);
        }
    }

    private static void mechanicIs(int s, int h, int cost, int drives, int costs) {
        NEW.asks("mechanic(" + s + ", " + h + ", " + cost + ", 0)", drives);
        NEW.asks("mechanic(" + s + ", " + h + ", " + cost + ", 1)", costs);
    }

    private static void mechanicJustSo() {
        for (int tenths = 1; tenths <= 9; tenths++) {
            mechanicIs(tenths, tenths, 7, 1, 7);
            if (tenths < 9) {
                Due.holds("more than " + tenths + " tenths want more DRIVES",
                    Call.on(new RattleAtFifty(), "mechanic(" + tenths + ", " + (tenths + 1) + ", 7, 0)") != 1);
            }
        }
        mechanicIs(5, 6, 7, 2, 14);
        mechanicIs(5, 7, 7, 2, 14);
        mechanicIs(5, 8, 7, 3, 21);
    }

    private static void worth() {
        Doc.says("WORTH IT: the most MILES (0 .. 99) such that HEARD at SEAT 0 times these is v (0 .. 9999) or less");
        Scene one = Scene.of("road p0701;");
        int[][] due = {{0, 0}, {6, 0}, {7, 1}, {8, 1}, {13, 1}, {14, 2}, {685, 97}, {686, 98}, {692, 98}, {693, 99},
            {694, 99}, {700, 99}, {9999, 99}};
        for (int[] row : due) {
            one.asks("worth(" + row[0] + ")", row[1]);
        }
        one.refuses("worth(-1)", -1);
        one.refuses("worth(10000)", -1);
        // The loudest car there is: 7 times 21.
        Scene loud = Scene.of("keep(0, 1, 5, 9)", "7 x adds(0, 0, 1)");
        loud.asks("heard(0, 50)", 147);
        loud.asks("worth(9999)", 68);
        loud.asks("worth(146)", 0);
        loud.asks("worth(147)", 1);
    }

    private static void worthNever() {
        Doc.says("-4 never reached (nothing is HEARD)");
        Scene one = Scene.of("road p0501;");
        one.then("set(3, 4)").asks("worth(20)", 20);
        one.then("set(3, 5)").asks("worth(20)", -4);
        one.then("set(3, 6)").asks("worth(0)", -4);
        one.then("set(0, 54)").asks("worth(20)", -4);
        one.then("holds(0)").asks("worth(20)", -4);
        NEW.asks("worth(0)", -4);
        NEW.asks("worth(9999)", -4);
        NEW.refuses("worth(10000)", -1);
        NEW.refuses("worth(-1)", -1);
    }

    private static void wedgesNumbers() {
        Doc.says("-1, -11, -12 (no ROW), -13 (more numbers than PARTS, no STATE).");
        Scene two = Scene.of("road p0501;p1301;");
        String[] good = {"", " 0", " 3", " 0 0", " 3 0", " 0 3", " 1 2", " 3 3"};
        int[] silent = {30, 30, 30, 30, 30, 94, 100, 100};
        String[] wrong = {" -1", " 4", " 0 -1", " 0 4", " 4 0", " 0 0 0", " 3 3 3", " 0 0 4"};
        for (String sort : new String[] {"bytes", "shorts", "ints"}) {
            for (int i = 0; i < good.length; i++) {
                two.then("1 " + sort + good[i]).asks("quiet(1, 0)", silent[i]);
            }
            for (String states : wrong) {
                two.then("1 " + sort + states).refuses("quiet(1, 0)", -13);
                two.then("1 " + sort + states).refuses("quiet(1, 1)", -13);
            }
        }
        NEW.then("row(1, 0, 0)").asks("quiet(1, 0)", 100);
        NEW.then("row(1, 0, 1)").refuses("quiet(1, 0)", -13);
        Scene seven = Scene.of("keep(0, 1, 1, 5)", "7 x adds(0, 0, 1)");
        seven.then("1 bytes 3 3 3 3 3 3 3").asks("quiet(1, 0)", 100);
        seven.then("1 bytes 3 3 3 3 3 3").asks("quiet(1, 0)", 30);
        seven.then("1 bytes 3 3 3 3 3 3 3 3").refuses("quiet(1, 0)", -13);
        two.then("1 bytes 0").refuses("quiet(1, -1)", -1);
        two.then("1 bytes 0").refuses("quiet(1, 2)", -1);
    }

    private static void wedgesSkipped() {
        Doc.says("a ROW tells for PARTS 0, 1, .. their STATES (the least number of the SORT is skipped)");
        String[] least = {"bytes -128", "shorts -32768", "ints -2147483648"};
        String[] nearly = {"bytes -127", "shorts -32767", "ints -2147483647", "shorts -128", "ints -128", "ints -32768",
            "bytes 127", "shorts 32767", "ints 2147483647"};
        Scene two = Scene.of("road p1501;p1501;o1;");
        for (String row : least) {
            // PART 0 stays FREE, PART 1 stays OUT, whatever the other one is told to be.
            two.then("1 " + row).asks("quiet(1, 0)", 30);
            two.then("1 " + row + " 0").asks("quiet(1, 0)", 30);
            two.then("1 " + row + " 3").asks("quiet(1, 0)", 30);
            two.then("1 " + row + row.substring(row.indexOf(' '))).asks("quiet(1, 0)", 30);
            String last = row.replace(" ", " 3 ");
            two.then("1 " + last).asks("quiet(1, 0)", 100);
            two.then("outs(0)", "1 " + row).asks("quiet(1, 0)", 100);
            two.then("outs(0)", "1 " + row + " 0").asks("quiet(1, 0)", 30);
        }
        for (String row : nearly) {
            two.then("1 " + row).refuses("quiet(1, 0)", -13);
        }
    }

    private static void wedgesSilent() {
        Doc.says("at how many PACES (0 .. 99) nothing would be HEARD at SEAT 0 with these; the least; -4");
        Scene one = Scene.of("road p1501;s99;", "1 bytes 0");
        one.asks("quiet(1, 0)", 30);
        one.asks("quiet(1, 1)", 0);
        one.then("set(3, 4)").asks("quiet(1, 0)", 30);
        one.then("set(3, 5)").asks("quiet(1, 0)", 100);
        one.then("set(3, 5)").asks("quiet(1, 1)", 0);
        Scene.of("road p0501;", "1 bytes 0").asks("quiet(1, 0)", 94);
        Scene.of("road p1331;", "1 bytes 0").asks("quiet(1, 0)", 100);
        Scene.of("road p1431;", "1 bytes 0").asks("quiet(1, 0)", 30);
        for (int state = 1; state <= 3; state++) {
            Scene.of("road p1501;", "1 bytes " + state).asks("quiet(1, 0)", 100);
        }
        Scene.of("road p1501;h0;", "1 bytes 0").asks("quiet(1, 0)", 30);
        Scene.of("road p1501;h0;", "1 bytes").asks("quiet(1, 0)", 100);
    }

    /** A ROW of bytes on SHELF 1 that tells 0 up to a PACE, then these. */
    private static Scene toldFrom(Scene scene, int pace, int... values) {
        Scene told = scene.then("row(1, 0, " + (pace + values.length) + ")");
        for (int i = 0; i < values.length; i++) {
            told = told.then("put(1, " + (pace + i) + ", " + values[i] + ")");
        }
        return told;
    }

    private static void forged() {
        Doc.says("FORGED: a ROW tells HEARD at SEAT 0 at PACES 0, 1, ..: the first place at which no LOAD (0 .. 5) fits "
            + "all up to it (the least number is skipped); -4");
        Scene heavy = Scene.of("road p4901;");
        heavy.then("row(1, 0, 0)").asks("forged(1)", -4);
        heavy.then("row(1, 0, 48)").asks("forged(1)", -4);
        heavy.then("row(1, 0, 49)").asks("forged(1)", 48);
        heavy.then("1 bytes 1").asks("forged(1)", 0);
        heavy.then("1 bytes 0").asks("forged(1)", -4);
        // By LOAD 0 it is 9, by LOAD 5 it is 4.
        toldFrom(heavy, 48, 9).asks("forged(1)", -4);
        toldFrom(heavy, 48, 10).asks("forged(1)", 48);
        toldFrom(heavy, 48, 4).asks("forged(1)", -4);
        toldFrom(heavy, 48, 3).asks("forged(1)", 48);
        // One LOAD must fit all.
        toldFrom(heavy, 48, 7, 7, 7, 7, 7, 7, 0).asks("forged(1)", -4);
        toldFrom(heavy, 48, 7, 7, 7, 6).asks("forged(1)", 51);
        toldFrom(heavy, 48, 7, 7, 7, 7, 7, 7, 7).asks("forged(1)", 54);
        // LOAD as now does not matter, RADIO, COLD and STATES do.
        toldFrom(heavy.then("set(2, 5)"), 48, 9).asks("forged(1)", -4);
        toldFrom(heavy.then("set(3, 4)"), 48, 0).asks("forged(1)", -4);
        toldFrom(heavy.then("set(3, 3)"), 48, 0).asks("forged(1)", 48);
        toldFrom(heavy.then("holds(0)"), 48, 0).asks("forged(1)", -4);
        toldFrom(Scene.of("road p3501;c4;"), 30, 0).asks("forged(1)", -4);
        toldFrom(Scene.of("road p3501;c5;"), 30, 0).asks("forged(1)", 30);
        NEW.then("1 ints 0 0 0").asks("forged(1)", -4);
        NEW.then("1 ints 0 0 1").asks("forged(1)", 2);
        NEW.then("1 ints 0 -1 1").asks("forged(1)", 1);
    }

    private static void forgedSkipped() {
        String[] least = {"bytes -128", "shorts -32768", "ints -2147483648"};
        String[] nearly = {"bytes -127", "shorts -32767", "ints -2147483647", "shorts -128", "ints -32768", "bytes 127"};
        for (String row : least) {
            NEW.then("1 " + row).asks("forged(1)", -4);
            NEW.then("1 " + row + " 0").asks("forged(1)", -4);
            // A skipped one keeps its PACE: the next is told of PACE 1.
            NEW.then("1 " + row + " 1").asks("forged(1)", 1);
        }
        for (String row : nearly) {
            NEW.then("1 " + row).asks("forged(1)", 0);
        }
        Scene heavy = Scene.of("road p4901;");
        toldFrom(heavy, 48, -128, 7, -128, 7).asks("forged(1)", -4);
        toldFrom(heavy, 48, -128, 7, -128, 6).asks("forged(1)", 51);
        toldFrom(heavy, 47, -128, 7).asks("forged(1)", -4);
    }

    private static void forgedAtTheLastPace() {
        Scene silent = Scene.of("road p1501;r05;", "row(1, 0, 100)");
        silent.asks("forged(1)", -4);
        silent.then("put(1, 99, 1)").asks("forged(1)", 99);
        silent.then("put(1, 0, 1)").asks("forged(1)", 0);
        silent.then("put(1, 99, -128)").asks("forged(1)", -4);
    }

    private static void judged() {
        Doc.says("JUDGED: a ROW tells HEARD at SEAT 0 on DRIVES from now, one behind the other (all as it is): the first "
            + "that is not so (the least number is skipped); -4");
        Scene car = Scene.of("road p0501;p0301;p0101;h0;w1;");
        String[] good = {"", " 1", " 1 6", " 1 6 9", " 1 6 9 9 9"};
        for (String sort : new String[] {"bytes", "shorts", "ints"}) {
            for (String told : good) {
                car.then("1 " + sort + told).asks("judge(1)", -4);
            }
            car.then("1 " + sort + " 2").asks("judge(1)", 0);
            car.then("1 " + sort + " 0 6 9").asks("judge(1)", 0);
            car.then("1 " + sort + " 1 1 9").asks("judge(1)", 1);
            car.then("1 " + sort + " 1 6 6").asks("judge(1)", 2);
            car.then("1 " + sort + " 1 6 9 8 7").asks("judge(1)", 3);
        }
        car.then("drives(1)", "1 bytes 6 9").asks("judge(1)", -4);
        car.then("drives(1)", "wedges(1)", "1 bytes 6 6 9").asks("judge(1)", -4);
        car.then("outs(0)", "1 bytes 1 1 4 4").asks("judge(1)", -4);
        car.then("set(3, 1)", "1 bytes 0 5 8").asks("judge(1)", -4);
        car.then("set(0, 47)", "1 bytes 0 0 0").asks("judge(1)", -4);
        NEW.then("1 bytes").asks("judge(1)", -4);
        NEW.then("1 bytes 0").asks("judge(1)", -4);
        NEW.then("1 bytes -1").asks("judge(1)", 0);
    }

    private static void judgedSkipped() {
        String[] least = {"bytes -128", "shorts -32768", "ints -2147483648"};
        String[] nearly = {"bytes -127", "shorts -32767", "ints -2147483647", "shorts -128", "ints -32768", "bytes 127"};
        Scene held = Scene.of("road p0501;h0;");
        for (String row : least) {
            held.then("1 " + row).asks("judge(1)", -4);
            // A skipped one is driven all the same: it is FREE on the next.
            held.then("1 " + row + " 5").asks("judge(1)", -4);
            held.then("1 " + row + " 0").asks("judge(1)", 1);
        }
        for (String row : nearly) {
            held.then("1 " + row).asks("judge(1)", 0);
        }
    }

    private static void judgedManyDrives() {
        Scene silent = Scene.of("road p0501;o0;", "row(1, 2, 100)");
        silent.asks("judge(1)", -4);
        silent.then("put(1, 99, 5)").asks("judge(1)", 99);
        silent.then("put(1, 0, 5)").asks("judge(1)", 0);
        Scene far = Scene.of("road p0501;", "101 x drives(99)", "1 bytes 5 5 5");
        far.asks("judge(1)", -4);
        far.asks("count(1)", 9999);
    }

    private static void winters() {
        Doc.says("WINTERS with a seed z: n winters (1 .. 20), each from now, of 10 DRIVES, in each PACE a DRAW below "
            + "100, COLD a DRAW below 10: how many of all in which something is HEARD at SEAT 0; all that is HEARD");
        Doc.says("A DRAW below n: z becomes z times 1103515245 plus 12345 (an int); (z without its sign's bit over "
            + "65536, cut) modulo n");
        Scene car = Scene.of("road p1501;p0901;p3301;r02;");
        for (int n : new int[] {1, 2, 19, 20}) {
            for (int z : new int[] {0, 1, -1, 2, 65535, 65536, Integer.MAX_VALUE, Integer.MIN_VALUE}) {
                int[] due = drawn(n, z);
                car.asks("winters(" + n + ", " + z + ", 0)", due[0]);
                car.asks("winters(" + n + ", " + z + ", 1)", due[1]);
            }
        }
        for (String call : new String[] {"winters(0, 1, 0)", "winters(21, 1, 0)", "winters(-1, 1, 0)",
            "winters(1, 1, -1)", "winters(1, 1, 2)"}) {
            car.refuses(call, -1);
        }
        NEW.asks("winters(20, 1, 0)", 0);
        NEW.asks("winters(20, 1, 1)", 0);
    }

    /** LOOSE 5, PART 9, FROSTY 3, RADIO 2, all FREE: on how many DRIVES something is HEARD, and all that is. */
    private static int[] drawn(int n, int z) {
        int seed = z;
        int[] due = new int[2];
        for (int drive = 0; drive < 10 * n; drive++) {
            seed = seed * 1103515245 + 12345;
            int pace = (seed & Integer.MAX_VALUE) / 65536 % 100;
            seed = seed * 1103515245 + 12345;
            int cold = (seed & Integer.MAX_VALUE) / 65536 % 10;
            int heard = (pace < 30 ? 0 : cold < 5 ? 5 : 8) + (pace < 48 || pace > 53 ? 0 : 9) - 2;
            due[0] += heard > 0 ? 1 : 0;
            due[1] += Math.max(0, heard);
        }
        return due;
    }

    private static void wintersFromNow() {
        // The PACES that z 1 draws for two winters, worked out apart from the class and its tests.
        int[] paces = {38, 13, 51, 10, 12, 49, 84, 25, 89, 37, 66, 95, 67, 31, 82, 24, 94, 51, 54, 61};
        // LOOSE is HEARD from PACE 30 on, but in each winter for so many DRIVES it is silent at first.
        int[] rattling = new int[3];
        for (int i = 0; i < paces.length; i++) {
            for (int silent = 0; silent < rattling.length; silent++) {
                rattling[silent] += paces[i] >= 30 && i % 10 >= silent ? 1 : 0;
            }
        }
        Due.is("all", rattling[0], 15);
        Due.is("HELD for one of each winter", rattling[1], 13);
        Due.is("WEDGED for two of each winter", rattling[2], 12);
        Scene loose = Scene.of("road p1501;");
        loose.asks("winters(2, 1, 0)", rattling[0]);
        loose.asks("winters(2, 1, 1)", 5 * rattling[0]);
        loose.then("holds(0)").asks("winters(2, 1, 0)", rattling[1]);
        loose.then("wedges(0)").asks("winters(2, 1, 0)", rattling[2]);
        loose.then("wedges(0)", "drives(1)").asks("winters(2, 1, 0)", rattling[1]);
        loose.then("outs(0)").asks("winters(2, 1, 0)", 0);
        // PACE and COLD are drawn, whatever they are now; LOAD and RADIO are as now; MILES do not matter.
        loose.then("set(0, 0)", "set(1, 0)").asks("winters(2, 1, 0)", rattling[0]);
        loose.then("set(3, 4)").asks("winters(2, 1, 1)", rattling[0]);
        loose.then("set(3, 5)").asks("winters(2, 1, 1)", 0);
        loose.then("101 x drives(99)").asks("winters(2, 1, 0)", rattling[0]);
        // PACES 51, 49 and 51, and COLD 7, 7 and 7 then: what else there is to hear.
        Scene.of("road p4301;").asks("winters(2, 1, 1)", 9);
        Scene.of("road p4301;l2;").asks("winters(2, 1, 1)", 3);
        Scene.of("road p4301;l3;").asks("winters(2, 1, 0)", 0);
        Scene.of("road p5101;").asks("winters(2, 1, 1)", 6);
        // FROSTY: 15 DRIVES from 30 on, of these with COLD below 5 those at 84, 89, 95, 67, 94 and 54.
        Scene.of("road p3101;").asks("winters(2, 1, 0)", 9);
    }
}
