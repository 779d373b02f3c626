import java.io.IOException;
import java.nio.file.Files;
import java.nio.file.Path;
import java.util.List;
import java.util.Set;
import java.util.TreeSet;
import java.util.regex.Matcher;
import java.util.regex.Pattern;

/** The rules of LANGUAGE.md that can be seen in the program's text; the program uses less than they allow. */
public final class LanguageTest {
    private static final Check CHECK = new Check("LanguageTest");
    private static final Path PROGRAM = Path.of("src/main/java/LineLearner.java");
    private static final String[] UNUSED = {"import", "package", "protected", "try", "catch", "finally", "synchronized",
        "assert", "instanceof", "native", "volatile", "transient", "Object", "System", "Thread", "Runtime", "Random",
        "Exact", "hashCode", "equals", "toString", "getMessage", "float", "record"};
    private static final Set<String> THROWN =
            Set.of("IllegalStateException", "IllegalArgumentException", "IndexOutOfBoundsException");

    public static void main(String[] args) throws IOException {
        String text = Files.readString(PROGRAM);
        CHECK.same("bytes 1 to 127 alone", text.chars().allMatch(c -> c == 10 || c >= 32 && c < 127), true);
        String code = withoutComments(text);
        for (String word : UNUSED) {
            CHECK.same("the word " + word, Pattern.compile("\\b" + word + "\\b").matcher(code).find(), false);
        }
        CHECK.same("lambdas", code.contains("->"), false);
        CHECK.same("method references", code.contains("::"), false);
        CHECK.same("annotations", code.contains("@"), false);
        CHECK.same("static blocks", Pattern.compile("static\\s*\\{").matcher(code).find(), false);
        CHECK.same("library calls", found(code, "\\bMath\\.\\w+").toString(), "[Math.max, Math.min]");
        thrown(code);
        methodLengths(text.lines().toList());
        CHECK.finish();
    }

    private static String withoutComments(String text) {
        return text.replaceAll("(?s)/\\*.*?\\*/", "").replaceAll("//[^\n]*", "").replaceAll("\"[^\"\n]*\"", "\"\"");
    }

    private static Set<String> found(String code, String pattern) {
        Set<String> found = new TreeSet<>();
        Matcher m = Pattern.compile(pattern).matcher(code);
        while (m.find()) {
            found.add(m.group());
        }
        return found;
    }

    private static void thrown(String code) {
        Matcher m = Pattern.compile("\\bthrow\\b([^;]*);").matcher(code);
        while (m.find()) {
            Matcher made = Pattern.compile(" new (\\w+)\\(\"\"\\)").matcher(m.group(1));
            CHECK.same("throw" + m.group(1), made.matches() && THROWN.contains(made.group(1)), true);
        }
    }

    /** By the indents: a method begins with a line that opens a brace and ends with one at the same indent. */
    private static void methodLengths(List<String> lines) {
        for (int i = 0; i < lines.size(); i++) {
            Matcher m = Pattern.compile("( {4}| {8})[\\w\\[\\]]+[^=;]*\\(.*\\{").matcher(lines.get(i));
            if (m.matches() && !lines.get(i).trim().matches("(if|for|while|switch|else)\\b.*")) {
                int end = i;
                while (end < lines.size() && !lines.get(end).equals(m.group(1) + "}")) {
                    end++;
                }
                CHECK.same("at most 60 lines from line " + (i + 1), end - i < 60, true);
            }
        }
    }
}
