import java.io.File;
import java.io.IOException;
import java.lang.reflect.Method;
import java.nio.file.Files;
import java.nio.file.Path;
import java.util.ArrayList;
import java.util.LinkedHashMap;
import java.util.LinkedHashSet;
import java.util.List;
import java.util.Map;
import java.util.Set;
import java.util.TreeSet;
import java.util.regex.Matcher;
import java.util.regex.Pattern;

/** README.md: its calls are those of the document's face, its REFUSALS the document's, its tests those there are. */
public final class ReadmeTest {
    private static final Pattern OF_FACE = Pattern.compile("public (int|long) (\\w+)\\(([^)]*)\\)( throws [\\w, ]+)?;");
    private static final Pattern REFUSAL = Pattern.compile("-\\d+");
    private static final long NONE = -4;
    private static final long LONG_REFUSALS = -1000000000L;

    public static void main(String[] args) throws IOException {
        Map<String, Readme.Row> calls = Readme.calls();
        face(calls);
        refusals(calls);
        meaningsOfRefusals();
        neverOrAlwaysNone();
        tests();
        promises();
        Due.ends();
    }

    private static void face(Map<String, Readme.Row> calls) {
        List<String> due = new ArrayList<>();
        Matcher m = OF_FACE.matcher(Doc.text());
        while (m.find()) {
            due.add(m.group(2) + "(" + m.group(3).replace("int ", "") + ")");
            Readme.Row row = calls.get(m.group(2));
            Due.holds(m.group(2) + " throws as told", row != null && (m.group(4) == null
                ? !row.refusals.contains("throws") : row.refusals.equals(m.group(4).trim())));
        }
        List<String> told = new ArrayList<>();
        for (Readme.Row row : calls.values()) {
            told.add(row.call);
        }
        Due.is("calls of the face", due.size(), 43);
        Due.holds("the calls are " + due + ", told are " + told, told.equals(due));
        Due.holds("the page tells which answers are of type long", Readme.text().contains("so are all answers but those "
            + "of `halves`, `oneByOne`, `ear` and `element`, which are of type long"));
        for (Method call : Call.face().values()) {
            boolean aLong = "halves oneByOne ear element".contains(call.getName());
            Due.holds(call + ", its type", call.getReturnType() == (aLong ? long.class : int.class));
            for (Class<?> type : call.getParameterTypes()) {
                Due.holds(call + ", its arguments", type == int.class);
            }
        }
    }

    /** The document's REFUSALS of each call, in its order, but for -4: that is told behind the others. */
    private static void refusals(Map<String, Readme.Row> calls) {
        Map<String, String> promises = new LinkedHashMap<>();
        Matcher promise = Pattern.compile("## Promise \\d+: (\\w+) (.*?) (?=## )").matcher(Doc.text());
        while (promise.find()) {
            promises.put(promise.group(1), promise.group(2));
        }
        for (Readme.Row row : calls.values()) {
            String name = row.call.substring(0, row.call.indexOf('('));
            // ONE BY ONE is "refused as told": as HALVES.
            String told = promises.get(name.equals("oneByOne") ? "halves" : name);
            Due.holds("a promise of " + name, told != null);
            Set<Long> due = new LinkedHashSet<>();
            Matcher refusal = REFUSAL.matcher(told == null ? "" : told);
            while (refusal.find()) {
                long number = Long.parseLong(refusal.group());
                due.add(told.contains("Refused as told") ? LONG_REFUSALS + number : number);
            }
            if (due.remove(NONE)) {
                due.add(NONE);
            }
            Due.holds("REFUSALS of " + name + " are " + due, Readme.refusals(row).equals(new ArrayList<>(due)));
        }
    }

    private static void meaningsOfRefusals() {
        String doc = Doc.text();
        String told = doc.substring(doc.indexOf("Their REFUSALS: -11"), doc.indexOf("-15 a FAILURE"))
            + doc.substring(doc.indexOf("REFUSALS (answers; nothing changes): -1"), doc.indexOf("Answers of several"))
            + "-15";
        Set<String> due = new TreeSet<>();
        Matcher number = REFUSAL.matcher(told);
        while (number.find()) {
            due.add(number.group());
        }
        Set<String> got = new TreeSet<>();
        for (String line : Readme.lines()) {
            if (line.matches("\\| -\\d+ \\|.*\\|")) {
                got.add(line.split(" ")[1]);
            }
        }
        Due.is("REFUSALS with a meaning", due.size(), 9);
        Due.holds("REFUSALS " + got + " are told, due are " + due, got.equals(due));
    }

    private static void neverOrAlwaysNone() {
        Due.holds("the page tells of -4", Readme.text().contains("`gone` and `quiet` never answer it, and `two` (what 1) "
            + "always does"));
        RattleAtFifty x = new RattleAtFifty();
        for (int s = 1; s <= 9; s++) {
            for (int t = 2; t <= 50; t++) {
                Due.holds("gone(" + s + ", " + t + ") is not -4", x.gone(s, t) >= 0);
            }
        }
        for (int kind = 0; kind <= 7; kind++) {
            for (int other = 0; other <= 7; other++) {
                RattleAtFifty car = Due.car("p" + kind + "901;p" + other + "501;c9;");
                car.row(0, 0, 0);
                Due.is("quiet, the least PACE", car.quiet(0, 1), 0);
                Due.is("two of nothing told", car.two(0, 1), NONE);
                Due.fill(car, 0, Due.BYTES, 50, 1, 40, 1);
                Due.is("two of two told", car.two(0, 1), NONE);
            }
        }
    }

    /** Each test there is stands on the page, and each that stands there is one. */
    private static void tests() throws IOException {
        Set<String> told = new TreeSet<>();
        for (String line : Readme.lines()) {
            Matcher name = Pattern.compile("`(\\w+Test)`").matcher(line);
            while (line.startsWith("| ") && name.find()) {
                told.add(name.group(1));
            }
        }
        Set<String> due = new TreeSet<>();
        File[] files = new File("src/test/java").listFiles();
        for (File file : files == null ? new File[0] : files) {
            if (file.getName().endsWith("Test.java")) {
                due.add(file.getName().replace(".java", ""));
                Due.holds(file + " ends with its failures", Files.readString(file.toPath()).contains("Due.ends()"));
            }
        }
        Due.holds("tests " + told + " are told, due are " + due, told.equals(due) && !due.isEmpty());
        String ci = Files.readString(Path.of(".ci/run"));
        for (String word : new String[] {"-Werror", "*Test.java", "ReadmeCode", "ReadmeExamples", "/tests/*.java"}) {
            Due.holds(".ci/run has " + word, ci.contains(word));
        }
    }

    private static void promises() {
        Set<Integer> tested = new TreeSet<>();
        Class<?>[] tests = {RoadTest.class, HeardTest.class, WhichTest.class, MendsTest.class, ToldTest.class,
            ImageTest.class, ShelvesTest.class};
        for (Class<?> test : tests) {
            for (Method method : test.getDeclaredMethods()) {
                Matcher number = Pattern.compile("promises?(\\d+)(?:And(\\d+))?[A-Z]?.*").matcher(method.getName());
                if (number.matches()) {
                    tested.add(Integer.parseInt(number.group(1)));
                    tested.add(Integer.parseInt(number.group(number.group(2) == null ? 1 : 2)));
                }
            }
        }
        for (int promise = 1; promise <= 44; promise++) {
            Due.holds("a method bears the number of promise " + promise, tested.contains(promise));
        }
    }
}
