import java.io.IOException;
import java.nio.charset.StandardCharsets;
import java.nio.file.Files;
import java.nio.file.Path;
import java.util.List;
import java.util.regex.Matcher;
import java.util.regex.Pattern;

/** The rules of LANGUAGE.md that the text of the class shows; run in the project's directory. */
public final class RulesTest {
    private static final Path SOURCE = Path.of("src/main/java/Shredroll.java");

    /** A rule's number, and what its words rule out in the code, comments and texts left aside. */
    private static final String[][] RULED_OUT = {
        {"rule 1", "^\\s*package\\b"},
        {"rule 2", "^(?!\\s*(?:case|default)\\b).*->|::"},
        {"rule 4", "\\bimport (?!java\\.util\\.(NoSuchElementException|ArrayList|List|Iterator|Arrays);)"},
        {"rule 4", "\\b\\w+Exact\\("},
        {"rule 5", "\\bstatic \\{"},
        {"rule 5", "\\bstatic (?!final\\b)(?:\\w+(?:\\[\\])*) \\w+( =|;)"},
        {"rule 6", "\\b(finally|synchronized|assert)\\b"},
        {"rule 6", "\\bextends \\w*Exception\\b"},
        {"rule 6", "\\bthrow (?!new (IllegalState|IllegalArgument|IndexOutOfBounds|NoSuchElement)Exception\\(\"\"\\);)"},
        {"rule 6", "\\bcatch \\((Exception|Throwable|RuntimeException|ArrayIndex|NullPointer|ClassCast)"},
        {"rule 6", "\\b(equals|hashCode|toString|getMessage)\\("},
        {"rule 10", "\"\" \\+|\\+ \"\""},
        {"rule 13", "\\b(System\\.(?!arraycopy)|Thread|Random|Math\\.random|java\\.(io|nio|net|time))"},
    };

    private static final int LONGEST_METHOD = 60;

    public static void main(String[] args) throws IOException {
        Tester tester = new Tester();
        String source = Files.readString(SOURCE, StandardCharsets.UTF_8);
        tester.due("signs above 126", source.chars().filter(sign -> sign > 126).count(), 0L);
        String code = withoutCommentsAndTexts(source);
        for (String[] rule : RULED_OUT) {
            Matcher matcher = Pattern.compile(rule[1], Pattern.MULTILINE).matcher(code);
            tester.due(rule[0] + ", " + rule[1], matcher.find() ? matcher.group() : "nothing", "nothing");
        }
        tester.due("rule 11, lines of the longest method", longestMethod(code) <= LONGEST_METHOD, true);
        tester.end();
    }

    private static String withoutCommentsAndTexts(String source) {
        return source.replaceAll("\"[^\"\\n]*\"", "\"\"").replaceAll("(?s)/\\*.*?\\*/", "").replaceAll("//[^\\n]*", "");
    }

    /** A method of the class starts with an indent of four and ends with a brace of that indent. */
    private static int longestMethod(String code) {
        List<String> lines = code.lines().toList();
        int longest = 0;
        int start = 0;
        for (int i = 0; i < lines.size(); i++) {
            if (lines.get(i).matches(" {4}\\w.*\\(.*") && !lines.get(i).endsWith(";")) {
                start = i;
            } else if (lines.get(i).equals("    }")) {
                longest = Math.max(longest, i - start + 1);
            }
        }
        return longest;
    }
}
