import java.io.IOException;
import java.io.UncheckedIOException;
import java.nio.file.Files;
import java.nio.file.Path;
import java.util.ArrayList;
import java.util.LinkedHashMap;
import java.util.List;
import java.util.Map;
import java.util.regex.Matcher;
import java.util.regex.Pattern;

/** What README.md says, as the tests want it. Runs from the project's folder. */
final class Readme {
    private static final Pattern CALL_ROW = Pattern.compile("\\| `((\\w+)\\([^`]*\\))` \\|(.*)\\|(.*)\\|");
    private static final Pattern REFUSAL = Pattern.compile("-\\d+");

    /** A row of the table of calls. */
    static final class Row {
        final String call;
        final String answers;
        final String refusals;

        Row(String call, String answers, String refusals) {
            this.call = call;
            this.answers = answers;
            this.refusals = refusals;
        }
    }

    private Readme() {
    }

    static List<String> lines() {
        try {
            return Files.readAllLines(Path.of("README.md"));
        } catch (IOException e) {
            throw new UncheckedIOException(e);
        }
    }

    static String text() {
        return String.join(" ", lines()).replaceAll("\\s+", " ");
    }

    /** The table of calls, by their names, in its order. */
    static Map<String, Row> calls() {
        Map<String, Row> calls = new LinkedHashMap<>();
        for (String line : lines()) {
            Matcher row = CALL_ROW.matcher(line);
            if (row.matches()) {
                Row before = calls.put(row.group(2), new Row(row.group(1), row.group(3).trim(), row.group(4).trim()));
                Due.holds(row.group(2) + " stands in README.md once", before == null);
            }
        }
        return calls;
    }

    /** The REFUSALS that the table names for a call, in its order. */
    static List<Long> refusals(Row row) {
        List<Long> refusals = new ArrayList<>();
        Matcher refusal = REFUSAL.matcher(row.refusals);
        while (refusal.find()) {
            refusals.add(Long.parseLong(refusal.group()));
        }
        return refusals;
    }
}
