import java.io.IOException;
import java.lang.reflect.Field;
import java.lang.reflect.Method;
import java.lang.reflect.Modifier;
import java.nio.file.Files;
import java.nio.file.Path;
import java.util.List;
import java.util.regex.Matcher;
import java.util.regex.Pattern;

/** What of LANGUAGE.md can be seen in the text of the class. Runs from the project's folder. */
public final class LanguageTest {
    private static final String[] OUTSIDE = {
        "^\\s*(package|import)\\b", "->", "::", "\\bfinally\\b", "\\bsynchronized\\b", "\\bassert\\b",
        "\\bgetMessage\\b", "Exact\\b", "@", "\\bfloat\\b", "\\bdouble\\b", "\\bvar\\b", "\\bstatic\\s*\\{",
        "\\bThread\\b", "\\bRandom\\b", "\\bcurrentTimeMillis\\b", "\\bnanoTime\\b", "\\bhashCode\\b",
        "\\bSystem\\.(?!arraycopy)", "\\bMath\\.(?!max|min|abs)", "\\bInteger\\.(?!bitCount)",
        "catch \\((?!IllegalArgumentException|IllegalStateException|UnsupportedOperationException)",
        "throw new (?!IllegalArgumentException|IllegalStateException|UnsupportedOperationException)",
    };
    private static final int MOST_LINES_OF_METHOD = 60;
    private static final int MOST_CLASSES = 12;
    private static final int MOST_FIELDS = 20;
    private static final int MOST_PARAMETERS = 7;

    public static void main(String[] args) throws IOException {
        List<String> lines = Files.readAllLines(Path.of("src/main/java/RattleAtFifty.java"));
        int classes = 0;
        for (int i = 0; i < lines.size(); i++) {
            String line = lines.get(i).replaceAll("//.*|/\\*\\*.*\\*/", "").replaceAll("\"[^\"]*\"", "");
            for (String outside : OUTSIDE) {
                Due.holds("line " + (i + 1) + " has " + outside, !Pattern.compile(outside).matcher(line).find());
            }
            Due.holds("line " + (i + 1) + ", plain signs", lines.get(i).chars().allMatch(c -> c < 128));
            classes += Pattern.compile("\\b(class|interface|enum|record) [A-Z]").matcher(line).find() ? 1 : 0;
            Matcher head = Pattern.compile("^(    |        )(?! ).*\\) (throws .*)?\\{$").matcher(line);
            if (head.find()) {
                int end = i + lines.subList(i, lines.size()).indexOf(head.group(1) + "}");
                Due.holds("line " + (i + 1) + ", a short method", end - i < MOST_LINES_OF_METHOD);
            }
        }
        Due.holds(classes + " classes", classes <= MOST_CLASSES);
        sizesOf(RattleAtFifty.class);
        for (Class<?> inner : RattleAtFifty.class.getDeclaredClasses()) {
            sizesOf(inner);
        }
        Due.ends();
    }

    private static void sizesOf(Class<?> type) {
        int fields = 0;
        for (Field field : type.getDeclaredFields()) {
            boolean constant = Modifier.isStatic(field.getModifiers());
            Due.holds(field + ", a static one is final", !constant || Modifier.isFinal(field.getModifiers()));
            fields += constant ? 0 : 1;
        }
        Due.holds(type + " has " + fields + " fields", fields <= MOST_FIELDS);
        for (Method method : type.getDeclaredMethods()) {
            Due.holds(method + ", its parameters", method.getParameterCount() <= MOST_PARAMETERS);
        }
    }
}
