import java.io.IOException;
import java.nio.file.Files;
import java.nio.file.Path;
import java.util.List;
import java.util.regex.Pattern;

/** What the text of the class shows of the rules of LANGUAGE.md. */
public final class RulesTest {
    private static final Path SOURCE = Path.of("src/main/java/BottlingBook.java");
    private static final int MOST_LINES = 60;
    private static final String METHOD = " +(public|private) (static )?[\\w<>\\[\\]]* ?\\w+\\([^;]*";
    private static final String[][] FORBIDDEN = {
        {"1 no package", "^\\s*package\\b"},
        {"3 no lambda, no method reference", "->|::"},
        {"4 one import", "^import (?!java\\.util\\.NoSuchElementException;)"},
        {"4 no function whose name ends in Exact", "Exact\\("},
        {"4 no joining of texts by +", "\"\\s*\\+|\\+\\s*\""},
        {"4 signs 1 to 127 alone", "[^\\x01-\\x7f]|\\\\u|\\\\[0-7]"},
        {"5 static fields are final", "\\bstatic\\b(?!.*(\\bfinal\\b|\\())"},
        {"6 nothing is caught", "\\b(try|catch|finally)\\b"},
        {"6 no other words", "\\b(synchronized|assert|instanceof|volatile|native|transient)\\b"},
        {"6 no other exceptions", "new (?!(IllegalState|IllegalArgument|IndexOutOfBounds|NoSuchElement)Exception)"
            + "\\w*(Exception|Error)\\b"},
        {"6 no equals, hashCode or toString", "\\b(equals|hashCode|toString)\\("},
        {"13 no clock, randomness, file, thread or environment", "\\b(System\\.(?!arraycopy)|Math\\.random|Thread)"},
    };

    public static void main(String[] args) throws IOException {
        List<String> lines = Files.readAllLines(SOURCE);
        for (int i = 0; i < lines.size(); i++) {
            for (String[] rule : FORBIDDEN) {
                if (Pattern.compile(rule[1]).matcher(lines.get(i)).find()) {
                    report(rule[0], i, lines.get(i).strip(), "none such");
                }
            }
            if (lines.get(i).matches(METHOD)) {
                int length = lengthFrom(i, lines);
                if (length > MOST_LINES) {
                    report("11 short methods", i, length + " lines", "at most " + MOST_LINES);
                }
            }
        }
        Script.end();
    }

    private static int lengthFrom(int first, List<String> lines) {
        String end = lines.get(first).replaceFirst("\\S.*", "}");
        int last = first;
        while (last < lines.size() - 1 && !lines.get(last).equals(end)) {
            last++;
        }
        return last - first + 1;
    }

    private static void report(String rule, int line, String got, String due) {
        Script.report("rule " + rule, "line " + (line + 1), got, due);
    }
}
