/** What only asks changes nothing: not the car, not its STATES over the next DRIVES, no SHELF, not THE IMAGE. */
public final class QuestionsTest {
    public static void main(String[] args) {
        Scene car = Scene.of("road p0501;p1412;p2323;p4704;p3905;p5806;s50;c6;l1;r03;w0;h1;o2;d07;w3;", "image()",
            "drives(1)", "wedges(4)", "holds(1)", "set(0, 49)", "keep(1, 1, 5, 4)", "2 bytes 1 -128 3", "3 shorts 50 1",
            "4 ints 50 1 47 0", "row(5, 0, 60)");
        String[] questions = {"part(0, 5)", "part(5, 6)", "heard(0, 0)", "heard(3, 50)", "loudest(0)", "paces(0, 0)",
            "paces(1, 1)", "paces(2, 2)", "silentFrom(0, 48)", "holdAll(0)", "holdAll(1)", "radio(0)", "wanted(0)",
            "wanted(1)", "bestSeat()", "which(3, 0)", "which(4, 1)", "two(3, 0)", "two(4, 1)", "tryNext(3)",
            "tryNext(5)", "halves(63, 0)", "halves(5, 1)", "oneByOne(63, 0)", "oneByOne(6, 1)", "worse(63)",
            "gone(1, 50)", "ear(2, 1, 0, 0)", "ear(5, 0, 0, 1)", "likeliest(2, 1)", "mends(0)", "mends(1)",
            "mechanic(5, 9, 7, 0)", "mechanic(5, 9, 7, 1)", "worth(99)", "quiet(2, 0)", "quiet(2, 1)", "forged(2)",
            "forged(5)", "judge(2)", "judge(5)", "winters(1, 7, 0)", "winters(20, -7, 1)", "count(6)", "element(4, 0)",
            "cost(1)", "toss(1)"};
        for (String question : questions) {
            car.leaves(question);
            // So that what is asked behind it still stands on the car as it is, too.
            for (String other : new String[] {"mends(0)", "winters(3, 5, 1)", "wanted(0)", "halves(31, 0)"}) {
                car.then(question).asks(other, car.answer(other));
            }
        }
        Due.ends();
    }
}
