import java.util.ArrayList;
import java.util.Arrays;
import java.util.List;

/**
 * What was called ahead of a question. Each question is asked of an object made anew; where nothing may
 * change, of one of two made alike: behind it both must go on alike, whatever they are called.
 *
 * <p>Steps: a call, "adds(1, 0, 9)"; a call again and again, "6 x adds(1, 0, 9)"; a ROW with its elements,
 * "2 bytes 50 1" (or shorts, ints); a text in a ROW of bytes, "2 text s50;"; a text on SHELF 7 that is
 * followed, "road s50;".
 */
final class Scene {
    private static final int MOST_CALLS = 512;

    /** An object with the number of its calls: behind 512 its answers are free, so none are asked for. */
    private static final class Counted {
        private final RattleAtFifty object = new RattleAtFifty();
        private int calls = 0;

        boolean canGoOn() {
            return calls < MOST_CALLS;
        }

        long call(String written) {
            calls++;
            return Call.on(object, written);
        }

        void must(String written, long due) {
            Due.holds("call " + calls + ", " + written + ", is one of 512", canGoOn());
            Due.is("ahead, " + written, call(written), due);
        }
    }

    private final List<String> steps = new ArrayList<>();

    private Scene(List<String> before, String... more) {
        steps.addAll(before);
        steps.addAll(Arrays.asList(more));
    }

    static Scene of(String... steps) {
        return new Scene(new ArrayList<>(), steps);
    }

    Scene then(String... more) {
        return new Scene(steps, more);
    }

    /** The call answers so; it may change what it likes. */
    void does(String call, long due) {
        Counted x = made();
        Due.holds(this + call + " is one of 512", x.canGoOn());
        Due.is(this + call, x.call(call), due);
    }

    /** The call answers so, and nothing changes. */
    void asks(String call, long due) {
        Counted asked = made();
        Counted other = made();
        Due.holds(this + call + " is one of 512", asked.canGoOn());
        Due.is(this + call, asked.call(call), due);
        other.calls++;
        Due.holds(this + call + " changes nothing", trail(asked).equals(trail(other)));
    }

    /** What the call answers now. */
    long answer(String call) {
        return made().call(call);
    }

    /** Whatever the call answers, nothing changes. */
    void leaves(String call) {
        asks(call, answer(call));
    }

    /** The call is refused so, and nothing changes. */
    void refuses(String call, long refusal) {
        Due.holds(call + " is refused with " + refusal, refusal < 0);
        asks(call, refusal);
    }

    /** A text on SHELF 7 is followed or has the FAULT that is due; with a FAULT nothing changes. */
    void follows(String text, long due) {
        Scene told = then("7 text " + text);
        if (due < 0) {
            told.refuses("road(7)", due);
        } else {
            told.does("road(7)", due);
        }
    }

    private Counted made() {
        Counted x = new Counted();
        for (String step : steps) {
            String[] words = step.split(" ");
            if (words[0].equals("road")) {
                text(x, 7, words);
                x.must("road(7)", words[1].chars().filter(c -> c == ';').count());
            } else if (words.length > 1 && words[1].equals("text")) {
                text(x, Integer.parseInt(words[0]), Arrays.copyOfRange(words, 1, words.length));
            } else if (words.length > 1 && words[1].equals("x")) {
                repeat(x, Integer.parseInt(words[0]), step.substring(step.indexOf('x') + 2));
            } else if (words[0].indexOf('(') < 0) {
                row(x, words);
            } else {
                x.call(step);
            }
        }
        return x;
    }

    private static void repeat(Counted x, int times, String call) {
        for (int i = 0; i < times; i++) {
            x.call(call);
        }
    }

    private static void text(Counted x, int d, String[] words) {
        String text = words.length > 1 ? words[1] : "";
        x.must("row(" + d + ", 0, " + text.length() + ")", 0);
        for (int i = 0; i < text.length(); i++) {
            x.must("put(" + d + ", " + i + ", " + (int) text.charAt(i) + ")", 0);
        }
    }

    private static void row(Counted x, String[] words) {
        int sort = Arrays.asList("bytes", "shorts", "ints").indexOf(words[1]);
        x.must("row(" + words[0] + ", " + sort + ", " + (words.length - 2) + ")", 0);
        for (int i = 2; i < words.length; i++) {
            x.must("put(" + words[0] + ", " + (i - 2) + ", " + words[i] + ")", 0);
        }
    }

    /** What an object answers to all that shows its state, as long as it is promised to answer. */
    private static List<Long> trail(Counted x) {
        List<Long> answers = new ArrayList<>();
        car(x, answers);
        for (int drive = 0; drive < 2; drive++) {
            ask(x, answers, "drives(1)");
            ask(x, answers, "count(7)");
        }
        ask(x, answers, "restore()");
        car(x, answers);
        for (int drive = 0; drive < 2; drive++) {
            ask(x, answers, "drives(1)");
            ask(x, answers, "count(7)");
        }
        for (int d = 0; d < 8; d++) {
            for (String call : new String[] {"cost(%d)", "toss(%d)", "element(%d, 0)", "put(%d, 0, 70000)",
                "element(%d, 0)", "road(%d)"}) {
                ask(x, answers, String.format(call, d));
            }
        }
        for (int d = 0; d < 8; d++) {
            for (int i = 1; x.canGoOn() && ask(x, answers, "element(" + d + ", " + i + ")") != Call.THROWS_STATE;) {
                i++;
            }
        }
        return answers;
    }

    private static void car(Counted x, List<Long> answers) {
        for (int what = 0; what <= 7; what++) {
            ask(x, answers, "count(" + what + ")");
        }
        for (int p = 0; p < 7; p++) {
            for (int what = 0; what <= 4; what++) {
                ask(x, answers, "part(" + p + ", " + what + ")");
            }
        }
    }

    private static long ask(Counted x, List<Long> answers, String call) {
        long answer = x.canGoOn() ? x.call(call) : 0;
        answers.add(answer);
        return answer;
    }

    @Override
    public String toString() {
        return steps + " ";
    }
}
