/** The edges that THE TEXT of a ROAD names: its form, kind 1, and what a STATEMENT must be, kind 2. */
public final class TextEdgesTest {
    private static final Scene NEW = Scene.of();
    private static final String LETTERS = "psclrhwotd";
    private static final int[] DIGITS = {4, 2, 1, 1, 2, 1, 1, 1, 1, 2};
    /** A STATEMENT of each letter, good behind those ahead of it. */
    private static final String[] GOOD = {"p0501;", "s50;", "c5;", "l0;", "r00;", "h0;", "w0;", "o0;", "t0;", "d01;"};

    public static void main(String[] args) {
        oneAtLeast();
        firstByte();
        digitsJustAsMany();
        digitsAlone();
        semicolonBehindEach();
        endIfSomethingLacks();
        firstFaultOfForm();
        aWholeRow();
        formAheadOfSense();
        numbersInTheirRanges();
        partsThatAreThere();
        heldOrWedgedThoughOut();
        milesAboveTheMost();
        noRoom();
        firstStatementThatIsNotAsItMustBe();
        eachOnThoseAheadOfIt();
        allOrNothing();
        whatTheStatementsDo();
        refusals();
        Due.ends();
    }

    private static void oneAtLeast() {
        Doc.says("STATEMENTS, each with \";\" behind, one at least");
        NEW.follows("", -1000);
        NEW.follows("s50;", 1);
        NEW.follows("s50;s51;", 2);
        NEW.follows(";", -1000);
        NEW.follows("s50;;", -1004);
    }

    private static void firstByte() {
        Doc.says("kind 1 the place of the first byte with which no ROAD can go on");
        for (int v = -128; v <= 127; v++) {
            boolean letter = LETTERS.indexOf(v) >= 0;
            Scene.of("7 bytes " + v).refuses("road(7)", letter ? -1001 : -1000);
        }
    }

    private static void digitsJustAsMany() {
        Doc.says("numbers in THE TEXT have just as many digits as told");
        for (int i = 0; i < GOOD.length; i++) {
            String good = GOOD[i];
            Scene ready = Scene.of("road p0501;");
            ready.follows(good, 1);
            int end = good.length() - 1;
            Due.is("digits of " + good, end - 1, DIGITS[i]);
            // One digit less: its ";" comes too early; one more: its ";" comes too late.
            ready.follows(good.substring(0, end - 1) + ";", -1000 - (end - 1));
            ready.follows(good.substring(0, end) + "0;", -1000 - end);
        }
    }

    private static void digitsAlone() {
        Scene ready = Scene.of("road p0501;");
        for (String good : GOOD) {
            for (int place = 1; place < good.length() - 1; place++) {
                // '/' and ':' are the signs beside '0' and '9'.
                for (char wrong : new char[] {'/', ':', ';', ' ', '-', '+', 'p'}) {
                    StringBuilder text = new StringBuilder(good);
                    text.setCharAt(place, wrong);
                    Scene told = ready.then("7 bytes" + numbers(text.toString()));
                    told.refuses("road(7)", -1000 - place);
                }
            }
        }
        NEW.follows("s00;", 1);
        NEW.follows("s99;", 1);
    }

    private static String numbers(String text) {
        StringBuilder all = new StringBuilder();
        for (int i = 0; i < text.length(); i++) {
            all.append(' ').append((int) text.charAt(i));
        }
        return all.toString();
    }

    private static void semicolonBehindEach() {
        Scene ready = Scene.of("road p0501;");
        for (String good : GOOD) {
            int end = good.length() - 1;
            for (char wrong : new char[] {':', '<', '0', 's', ','}) {
                ready.follows(good.substring(0, end) + wrong, -1000 - end);
                ready.follows("s50;" + good.substring(0, end) + wrong + "s50;", -1004 - end);
            }
        }
    }

    private static void endIfSomethingLacks() {
        Doc.says("(the end, if something lacks): -1000 less the place");
        String text = String.join("", GOOD);
        int statements = 0;
        for (int length = 1; length <= text.length(); length++) {
            boolean whole = text.charAt(length - 1) == ';';
            statements += whole ? 1 : 0;
            NEW.follows(text.substring(0, length), whole ? statements : -1000 - length);
        }
    }

    private static void firstFaultOfForm() {
        NEW.follows("xy", -1000);
        NEW.follows("s5x;y", -1002);
        NEW.follows("s50;xs5", -1004);
        NEW.follows("S50;", -1000);
        NEW.follows("s50;P0501;", -1004);
    }

    private static void aWholeRow() {
        Doc.says("0 .. 100 elements");
        String most = "s50;".repeat(25);
        NEW.follows(most, 25);
        NEW.follows(most.substring(0, 99) + "x", -1099);
        NEW.follows("s50;".repeat(24) + "p050", -1100);
        NEW.follows("c5;".repeat(32) + "s99;", 33);
        NEW.follows("c5;".repeat(31) + "s50;" + "l5;", 33);
        // The greatest place of a letter: 97.
        NEW.follows("s50;".repeat(22) + "c5;".repeat(3) + "l5;", 26);
        NEW.follows("s50;".repeat(22) + "c5;".repeat(3) + "l6;", -2097);
    }

    private static void formAheadOfSense() {
        Doc.says("else kind 2 the place of the letter of the first STATEMENT that is not as it must be");
        NEW.follows("l6;", -2000);
        NEW.follows("l6;x", -1003);
        NEW.follows("l6;l", -1004);
        NEW.follows("h0;s50", -1006);
        NEW.follows("l6;s50;", -2000);
    }

    private static void numbersInTheirRanges() {
        Doc.says("(a number out of range, no such one, HELD or WEDGED though OUT, MILES above 9999, no room): "
            + "-2000 less the place");
        String[] good = {"s00;", "s99;", "c0;", "c9;", "l0;", "l5;", "r00;", "r40;", "d01;", "d99;",
            "p0001;", "p7001;", "p0901;", "p0031;", "p0009;", "p7939;"};
        String[] wrong = {"l6;", "l9;", "r41;", "r99;", "d00;", "p8001;", "p9001;", "p0041;", "p0091;", "p0000;"};
        for (String text : good) {
            NEW.follows(text, 1);
            NEW.follows("c5;" + text, 2);
            // Whatever it was ahead: the least, too.
            NEW.follows("s00;c0;l0;r00;" + text, 5);
            NEW.follows("s99;c9;l5;r40;" + text, 5);
        }
        for (String text : wrong) {
            NEW.follows(text, -2000);
            NEW.follows("c5;" + text, -2003);
            Scene.of("road p0501;w0;d01;").follows("s10;" + text + "s20;", -2004);
        }
    }

    private static void partsThatAreThere() {
        for (char letter : "hwot".toCharArray()) {
            NEW.follows(letter + "0;", -2000);
            Scene one = Scene.of("road p0501;");
            one.follows(letter + "0;", 1);
            one.follows(letter + "1;", -2000);
            Scene seven = Scene.of("keep(1, 1, 0, 5)", "7 x adds(1, 0, 1)");
            seven.follows(letter + "6;", 1);
            seven.follows(letter + "7;", -2000);
            seven.follows(letter + "9;", -2000);
        }
    }

    private static void heldOrWedgedThoughOut() {
        Scene out = Scene.of("road p0501;p0501;o0;");
        for (char letter : "hw".toCharArray()) {
            out.follows(letter + "0;", -2000);
            out.follows(letter + "1;", 1);
            out.follows("o0;" + letter + "0;", 2);
            out.follows("o1;" + letter + "1;", -2003);
        }
        out.follows("t0;", 1);
        out.follows("o0;o0;", 2);
    }

    private static void milesAboveTheMost() {
        Scene nearly = Scene.of("100 x drives(99)", "drives(97)");
        nearly.follows("d02;", 1);
        nearly.follows("d03;", -2000);
        nearly.follows("d01;d01;", 2);
        nearly.follows("d01;d02;", -2004);
        nearly.follows("d02;d01;", -2004);
    }

    private static void noRoom() {
        Scene six = Scene.of("keep(1, 1, 0, 5)", "6 x adds(1, 0, 1)");
        six.follows("p0501;", 1);
        six.follows("p0501;p0501;", -2006);
        six.then("adds(1, 0, 1)").follows("p0501;", -2000);
        NEW.follows("p0501;".repeat(7), 7);
        NEW.follows("p0501;".repeat(8), -2042);
    }

    private static void firstStatementThatIsNotAsItMustBe() {
        NEW.follows("s50;l6;r41;", -2004);
        NEW.follows("s50;r41;l6;", -2004);
        NEW.follows("s50;c9;h0;", -2007);
    }

    private static void eachOnThoseAheadOfIt() {
        Doc.says("STATEMENTS are tried one behind the other, each on what those ahead of it made, and the first that "
            + "can't be done so is told (kind 2)");
        NEW.follows("p0501;h0;", 2);
        NEW.follows("h0;p0501;", -2000);
        NEW.follows("p0501;o0;o0;h0;", 4);
        NEW.follows("p0501;o0;h0;o0;", -2009);
        NEW.follows("p0501;h1;p0501;", -2006);
    }

    private static void allOrNothing() {
        Doc.says("Without FAULT all of it comes, with one nothing.");
        String much = "p0501;s30;c9;l5;r40;d50;w0;t0;o0;";
        Scene before = Scene.of("road p0711;p0821;w1;d01;h0;");
        before.follows(much, 9);
        before.follows(much + "l6;", -2033);
        before.follows(much + "l", -1034);
        Scene came = before.then("road " + much);
        came.asks("count(0)", 3);
        came.asks("count(1)", 51);
        came.asks("count(2)", 30);
        came.asks("count(3)", 9);
        came.asks("count(4)", 5);
        came.asks("count(5)", 40);
        came.asks("part(0, 4)", 3);
        came.asks("part(1, 1)", 9);
    }

    private static void whatTheStatementsDo() {
        Doc.says("\"p\" KIND, FIGURE, SEAT, WEIGHT (a digit each): a PART more");
        Scene part = Scene.of("road p7938;");
        int[] due = {7, 9, 3, 8, 0};
        for (int what = 0; what < due.length; what++) {
            part.asks("part(0, " + what + ")", due[what]);
        }
        Doc.says("\"w\" likewise: WEDGED (anew)");
        Scene.of("road p0501;w0;d01;d01;").asks("part(0, 4)", 0);
        Scene.of("road p0501;w0;d01;w0;d01;").asks("part(0, 4)", 2);
        Doc.says("\"h\" a PART (a digit): it is HELD");
        Scene.of("road p0501;h0;").asks("part(0, 4)", 1);
        Scene.of("road p0501;h0;d01;").asks("part(0, 4)", 0);
        Doc.says("\"o\" likewise: OUT, or, if it is, FREE");
        Scene.of("road p0501;o0;").asks("part(0, 4)", 3);
        Scene.of("road p0501;o0;o0;").asks("part(0, 4)", 0);
        Doc.says("\"t\" likewise: SCREWED");
        Scene.of("road p0501;p1401;t0;").asks("part(1, 1)", 7);
        Scene.of("road p0501;p1401;t1;").asks("part(0, 1)", 6);
        Doc.says("\"d\" MILES (2 digits): a DRIVE");
        Scene.of("road d01;d99;").asks("count(1)", 100);
    }

    private static void refusals() {
        Doc.says("The text in SHELF d: how many STATEMENTS; the FAULT. -1, -11, -12 (no ROW of bytes).");
        Scene shelves = Scene.of("0 text s30;", "7 text s31;", "keep(2, 1, 0, 5)", "3 shorts 115 51 48 59",
            "4 ints 115 51 48 59", "5 shorts", "6 ints");
        shelves.does("road(0)", 1);
        shelves.does("road(7)", 1);
        shelves.refuses("road(-1)", -1);
        shelves.refuses("road(8)", -1);
        shelves.refuses("road(1)", -11);
        for (int d = 2; d <= 6; d++) {
            shelves.refuses("road(" + d + ")", -12);
        }
        Doc.says("The ROW of a text, and what is taken from a SHELF, stay there");
        shelves.then("road(0)").asks("element(0, 1)", '3');
        shelves.then("road(0)").asks("element(0, 3)", ';');
        shelves.then("road(0)").refuses("element(0, 4)", Call.THROWS_STATE);
        shelves.then("road(0)").does("road(0)", 1);
    }
}
