import java.lang.reflect.Method;
import java.util.ArrayList;
import java.util.Arrays;
import java.util.List;
import java.util.Map;
import java.util.Random;
import java.util.Set;
import java.util.TreeMap;
import java.util.TreeSet;

/** All promises: drawn runs of calls, each answer against that of the model; the draws are always the same. */
public final class ModelTest {
    private static final int RUNS = 1500;
    private static final int CALLS = 512;
    private static final int[] ODD = {-1, -2, 8, 10, 99, 100, 101, 128, 10000, Integer.MIN_VALUE, Integer.MAX_VALUE};

    /** The REFUSALS met, by calls; elements may be below 0, so they are none. */
    private static final Map<String, Set<Long>> MET = new TreeMap<>();

    private final Random random;
    private final RattleAtFifty object = new RattleAtFifty();
    private final Model model = new Model();
    private final Method[] methods;
    private final List<String> run = new ArrayList<>();
    private int calls = 0;
    private boolean wrong = false;

    private ModelTest(int seed, Method[] methods) {
        random = new Random(seed);
        this.methods = methods;
    }

    public static void main(String[] args) {
        Method[] face = Call.face().values().toArray(new Method[0]);
        int right = 0;
        for (int seed = 0; seed < RUNS; seed++) {
            ModelTest test = new ModelTest(seed, face);
            test.drawRun();
            right += test.wrong ? 0 : 1;
        }
        Due.is("runs as the model", right, RUNS);
        namedByReadme();
        Due.ends();
    }

    /** Each REFUSAL that a run met is one that README.md names for that call. */
    private static void namedByReadme() {
        for (String name : MET.keySet()) {
            List<Long> named = Readme.refusals(Readme.calls().get(name));
            for (long refusal : MET.get(name)) {
                boolean fault = name.equals("road") && refusal <= -1000;
                Due.holds(name + " answered " + refusal + ", README.md names " + named, fault || named.contains(refusal));
            }
        }
    }

    private void drawRun() {
        if (random.nextInt(4) > 0) {
            text(goodText());
        }
        while (calls < CALLS - 110 && !wrong) {
            int kind = random.nextInt(40);
            if (kind == 0) {
                text(random.nextBoolean() ? goodText() : spoiled(goodText()));
            } else if (kind == 1) {
                pairs();
            } else if (kind == 2) {
                told(random.nextInt(8), random.nextInt(9), 4);
            } else if (kind == 3) {
                told(random.nextInt(8), random.nextInt(9), 3);
            } else if (kind == 4) {
                judged();
            } else {
                drawCall();
            }
        }
    }

    private void drawCall() {
        Method m = methods[random.nextInt(methods.length)];
        int[] a = new int[m.getParameterCount()];
        for (int i = 0; i < a.length; i++) {
            a[i] = random.nextInt(20) == 0 ? ODD[random.nextInt(ODD.length)] : usual(m.getName(), i);
        }
        call(m.getName(), a);
    }

    private int usual(String name, int i) {
        switch (name) {
            case "halves":
            case "oneByOne":
            case "worse":
                return i == 0 ? random.nextInt(random.nextBoolean() ? 128 : 16) : random.nextInt(2);
            case "heard":
            case "silentFrom":
                return i == 0 ? random.nextInt(4) : 25 + random.nextInt(35);
            case "gone":
                return i == 0 ? 1 + random.nextInt(9) : 2 + random.nextInt(49);
            case "ear":
            case "likeliest":
                return i == 0 ? random.nextInt(8) : i == 1 ? random.nextInt(10) : random.nextInt(i == 2 ? 4 : 2);
            case "mechanic":
                return i == 3 ? random.nextInt(2) : i == 2 ? random.nextInt(100) : random.nextInt(10);
            case "worth":
                return random.nextInt(400);
            case "winters":
                return i == 0 ? 1 + random.nextInt(20) : i == 1 ? random.nextInt() : random.nextInt(2);
            case "adds":
                return i == 0 ? random.nextInt(8) : i == 1 ? random.nextInt(4) : 1 + random.nextInt(9);
            case "set":
                return i == 0 ? random.nextInt(4) : random.nextInt(random.nextBoolean() ? 6 : 60);
            case "drives":
                return random.nextInt(100);
            case "row":
                return i == 2 ? random.nextInt(12) - 1 : random.nextInt(i == 0 ? 8 : 3);
            case "put":
                return i == 2 ? random.nextInt() >> random.nextInt(31) : random.nextInt(8);
            case "keep":
                return i == 1 ? random.nextInt(8) == 0 ? 0 : 1 : random.nextInt(i == 3 ? 10 : 8);
            case "copy":
                return random.nextInt(i == 0 || i == 2 ? 8 : 5);
            default:
                return random.nextInt(i == 0 ? 8 : 3);
        }
    }

    private String goodText() {
        StringBuilder text = new StringBuilder();
        int many = 1 + random.nextInt(12);
        for (int i = 0; i < many && text.length() < 92; i++) {
            switch (random.nextInt(10)) {
                case 0: text.append("s").append(47 + random.nextInt(8)).append(";"); break;
                case 1: text.append("c").append(random.nextInt(10)).append(";"); break;
                case 2: text.append("l").append(random.nextInt(6)).append(";"); break;
                case 3: text.append("r0").append(random.nextInt(10)).append(";"); break;
                case 4: text.append("hwot".charAt(random.nextInt(4))).append(random.nextInt(3)).append(";"); break;
                case 5: text.append("d").append(10 + random.nextInt(90)).append(";"); break;
                default: text.append("p").append(random.nextInt(8)).append(random.nextInt(10))
                    .append(random.nextInt(4)).append(1 + random.nextInt(9)).append(";");
            }
        }
        return text.toString();
    }

    private String spoiled(String text) {
        StringBuilder spoiled = new StringBuilder(text);
        int at = random.nextInt(spoiled.length());
        switch (random.nextInt(3)) {
            case 0: spoiled.deleteCharAt(at); break;
            case 1: spoiled.setLength(at); break;
            default: spoiled.setCharAt(at, "pschwotdlr;0123456789 /:\u00ff".charAt(random.nextInt(25)));
        }
        return spoiled.toString();
    }

    private void text(String text) {
        int d = random.nextInt(8);
        call("row", d, 0, text.length());
        for (int i = 0; i < text.length(); i++) {
            call("put", d, i, text.charAt(i));
        }
        call("road", d);
        call("count", 0);
    }

    private void pairs() {
        int d = random.nextInt(8);
        int n = 2 * random.nextInt(4);
        call("row", d, random.nextInt(3), n);
        for (int i = 0; i < n; i++) {
            call("put", d, i, i % 2 == 0 ? 25 + random.nextInt(35) : random.nextInt(2));
        }
        call("which", d, 0);
        call("which", d, 1);
        call("two", d, random.nextInt(2));
        call("tryNext", d);
    }

    private void told(int d, int n, int below) {
        int sort = random.nextInt(3);
        call("row", d, sort, n);
        for (int i = 0; i < n; i++) {
            int least = sort == 0 ? -128 : sort == 1 ? -32768 : Integer.MIN_VALUE;
            call("put", d, i, random.nextInt(9) == 0 && below == 4 ? least : random.nextInt(below));
        }
        call("ear", d, random.nextInt(10), random.nextInt(4), random.nextInt(2));
        call("likeliest", d, random.nextInt(10));
        call("quiet", d, random.nextInt(2));
        call("forged", d);
    }

    /** ROWS that tell what is so, but for one place perhaps: for judge and for forged. */
    private void judged() {
        int d = random.nextInt(8);
        call("image");
        int n = 1 + random.nextInt(5);
        int[] heard = new int[n];
        for (int i = 0; i < n; i++) {
            heard[i] = (int) call("drives", 1);
        }
        call("restore");
        call("row", d, 1, n);
        for (int i = 0; i < n; i++) {
            call("put", d, i, random.nextInt(6) == 0 ? -32768 : heard[i] + (random.nextInt(8) == 0 ? 1 : 0));
        }
        call("judge", d);
        if (random.nextInt(4) == 0) {
            call("row", d, 1, 56);
            for (int i = 28; i < 56; i++) {
                long at = call("heard", 0, i);
                call("put", d, i, random.nextInt(40) == 0 ? -32768 : (int) at);
            }
            call("forged", d);
            call("set", 2, random.nextInt(6));
            call("forged", d);
        }
    }

    private long call(String name, int... a) {
        long due = model.answer(name, a);
        long got = Call.on(object, name, a);
        run.add(name + Arrays.toString(a) + " -> " + got);
        calls++;
        if (got < 0 && !name.equals("element")) {
            MET.computeIfAbsent(name, n -> new TreeSet<>()).add(got);
        }
        if (got != due && !wrong) {
            wrong = true;
            System.out.println("the model answers " + due + " to the last of: " + run);
        }
        return due;
    }
}
