import java.io.IOException;
import java.nio.file.DirectoryStream;
import java.nio.file.Files;
import java.nio.file.Path;
import java.util.Arrays;
import java.util.regex.Matcher;
import java.util.regex.Pattern;

/**
 * The document's words against those that the tests quote by Doc.says: each word that names an edge, from
 * "Terms" to the last promise, stands in a sentence that a test is about. Runs from the project's folder.
 */
public final class DocTest {
    private static final Pattern EDGE = Pattern.compile("\\d \\.\\. \\d|-\\d|at least|at most|at first|or more|or less"
        + "|of several|above|below|skipped|none|nothing|no such|the last|anew|round|more than|fewer|if there|unwhole"
        + "|stay|put in|alone|just as|the end|first|cut|an int|enough|never|too\\b");
    private static final Pattern QUOTED = Pattern.compile("Doc\\.says\\(((?:\\s*\\+?\\s*\"(?:[^\"\\\\]|\\\\.)*\")+)\\);");
    private static final Pattern LITERAL = Pattern.compile("\"((?:[^\"\\\\]|\\\\.)*)\"");

    public static void main(String[] args) throws IOException {
        String doc = Doc.text();
        boolean[] quoted = new boolean[doc.length()];
        try (DirectoryStream<Path> files = Files.newDirectoryStream(Path.of("src/test/java"), "*Test.java")) {
            for (Path file : files) {
                markQuotes(Files.readString(file), doc, quoted);
            }
        }
        int end = doc.indexOf("## Not promised");
        Matcher edge = EDGE.matcher(doc);
        for (int at = doc.indexOf("## Terms"); edge.find(at) && edge.start() < end; at = edge.end()) {
            String around = doc.substring(Math.max(0, edge.start() - 60), Math.min(doc.length(), edge.end() + 40));
            Due.holds("a test is about: .. " + around + " ..", quoted[edge.start()]);
        }
        Due.ends();
    }

    private static void markQuotes(String source, String doc, boolean[] quoted) {
        Matcher says = QUOTED.matcher(source);
        while (says.find()) {
            StringBuilder words = new StringBuilder();
            Matcher literal = LITERAL.matcher(says.group(1));
            while (literal.find()) {
                words.append(literal.group(1).replace("\\\"", "\""));
            }
            for (int at = doc.indexOf(words.toString()); at >= 0; at = doc.indexOf(words.toString(), at + 1)) {
                Arrays.fill(quoted, at, at + words.length(), true);
            }
        }
    }
}
