import java.util.List;
import java.util.regex.Matcher;
import java.util.regex.Pattern;

/**
 * Writes the Java code of README.md as a test, ReadmeExamples, to standard output: a call with a number behind
 * it must answer that, one with "throws" must throw that. Fails at a line that tells something else.
 */
public final class ReadmeCode {
    private static final String CALL = "(x\\.\\w+\\([^;]*\\));\\s*// ";
    private static final Pattern ANSWERED = Pattern.compile(CALL + "(-?\\d+)(: .*)?");
    private static final Pattern THROWN = Pattern.compile(CALL + "throws (\\w+)(: .*)?");

    public static void main(String[] args) {
        StringBuilder code = new StringBuilder("public final class ReadmeExamples {\n");
        StringBuilder calls = new StringBuilder();
        List<String> lines = Readme.lines();
        boolean inCode = false;
        int blocks = 0;
        for (int i = 0; i < lines.size(); i++) {
            String line = lines.get(i);
            if (!inCode && line.equals("```java")) {
                inCode = true;
                blocks++;
                code.append("    private static void example").append(blocks).append("() {\n");
                calls.append("        example").append(blocks).append("();\n");
            } else if (inCode && line.equals("```")) {
                inCode = false;
                code.append("    }\n\n");
            } else if (inCode) {
                code.append("        ").append(tested(line, i + 1)).append('\n');
            }
        }
        if (blocks == 0 || inCode) {
            throw new IllegalStateException("README.md has no code, or code without an end");
        }
        code.append("    public static void main(String[] args) {\n").append(calls).append("        Due.ends();\n    }\n}");
        System.out.println(code);
    }

    private static String tested(String line, int number) {
        Matcher answered = ANSWERED.matcher(line.trim());
        if (answered.matches()) {
            return String.format("Due.is(\"README.md, line %d\", %s, %sL);", number, answered.group(1), answered.group(2));
        }
        Matcher thrown = THROWN.matcher(line.trim());
        if (thrown.matches()) {
            return String.format("try { %s; Due.holds(\"README.md, line %d, throws\", false); } "
                + "catch (RuntimeException e) { Due.holds(\"README.md, line %d\", e.getClass() == %s.class); }",
                thrown.group(1), number, number, thrown.group(2));
        }
        if (line.contains("//")) {
            throw new IllegalStateException("README.md, line " + number + " tells neither an answer nor what is thrown");
        }
        return line;
    }
}
