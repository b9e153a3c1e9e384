import java.io.IOException;
import java.nio.charset.StandardCharsets;
import java.nio.file.Files;
import java.nio.file.Path;
import java.util.HashMap;
import java.util.List;
import java.util.Map;
import java.util.TreeSet;
import java.util.regex.Matcher;
import java.util.regex.Pattern;
import java.util.stream.Stream;

/** What README.md says holds for the files as they lie here; run in the project's directory. */
public final class ReadmeTest {
    private static final Path README = Path.of("README.md");
    private static final Path DOCUMENT = Path.of("../shared/DOC.md");
    private static final Path TESTS = Path.of("src/test/java");

    /** Such as "int disk = roll.bring(0, 1, 3);  // 0: a spinning disk": the answer that is due stands before the colon. */
    private static final Pattern EXAMPLE =
            Pattern.compile("(?:int (\\w+) = )?roll\\.(\\w+)\\((.*)\\);\\s*// (throws )?([\\w.-]+)(?::.*)?");

    /** A path in the project or beside it. */
    private static final Pattern NAMED_PATH = Pattern.compile("`((?:\\.\\./|src/|\\.ci/)[\\w./-]+)`");

    public static void main(String[] args) throws IOException {
        Tester tester = new Tester();
        String readme = Files.readString(README, StandardCharsets.UTF_8);
        runExamples(tester, readme);
        saysForHowManyCalls(tester, readme);
        namesEachTestFile(tester, readme);
        namesOnlyPathsThatAreThere(tester, readme);
        tester.end();
    }

    private static void runExamples(Tester tester, String readme) {
        Shredroll roll = new Shredroll();
        Map<String, Object> values = new HashMap<>(Map.of("true", true, "false", false));
        List<String> code = blockOf(readme, "```java");
        tester.due("first line of the example", code.isEmpty() ? "" : code.get(0), "Shredroll roll = new Shredroll();");
        for (String line : code.subList(Math.min(1, code.size()), code.size())) {
            Matcher example = EXAMPLE.matcher(line);
            if (!example.matches()) {
                tester.due("README's example", line, "a call with its answer");
                continue;
            }
            Object answer = Call.of(example.group(2), toldIn(example.group(3), values)).answerOf(roll);
            tester.due("README's example " + line, plain(answer), meant(example.group(4) != null, example.group(5)));
            if (example.group(1) != null) {
                values.put(example.group(1), answer);
            }
        }
    }

    private static Object[] toldIn(String list, Map<String, Object> values) {
        String[] words = list.isEmpty() ? new String[0] : list.split(", ");
        Object[] told = new Object[words.length];
        for (int i = 0; i < words.length; i++) {
            told[i] = values.containsKey(words[i]) ? values.get(words[i]) : (Object) Integer.valueOf(words[i]);
        }
        return told;
    }

    private static String plain(Object answer) {
        return answer instanceof Class ? Tester.text(answer) : String.valueOf(answer);
    }

    private static String meant(boolean isThrown, String word) {
        return isThrown ? "throws." + word : switch (word) {
            case "Shredroll.NONE" -> "-1";
            case "Shredroll.RAW" -> "0";
            case "Shredroll.WIPED" -> "1";
            case "Shredroll.SPOILED" -> "2";
            case "Shredroll.BROKEN" -> "3";
            default -> word;
        };
    }

    private static List<String> blockOf(String readme, String opening) {
        List<String> lines = readme.lines().toList();
        int start = lines.indexOf(opening) + 1;
        int end = start;
        while (start > 0 && end < lines.size() && !lines.get(end).equals("```")) {
            end++;
        }
        return lines.subList(start, end).stream().filter(line -> !line.isBlank()).toList();
    }

    private static void saysForHowManyCalls(Tester tester, String readme) throws IOException {
        String words = readme.replaceAll("\\s+", " ");
        List<String> said = Files.readAllLines(DOCUMENT, StandardCharsets.UTF_8).stream()
                .filter(line -> line.startsWith("An object is used for")).toList();
        tester.due("sentences about how long an object is used", said.size(), 1);
        for (String sentence : said) {
            tester.due("README says: " + sentence, words.contains(sentence), true);
        }
        String order = "If several apply, the one that the throws clause names first is thrown.";
        tester.due("README says: " + order, words.contains(order), true);
    }

    private static void namesEachTestFile(Tester tester, String readme) throws IOException {
        try (Stream<Path> files = Files.list(TESTS)) {
            TreeSet<String> unnamed = new TreeSet<>();
            for (Path file : files.toList()) {
                String name = file.getFileName().toString().replace(".java", "");
                if (!readme.contains("`" + name + "`")) {
                    unnamed.add(name);
                }
            }
            tester.due("test files that README does not name", unnamed, new TreeSet<String>());
        }
    }

    private static void namesOnlyPathsThatAreThere(Tester tester, String readme) {
        Matcher named = NAMED_PATH.matcher(readme);
        while (named.find()) {
            tester.due("README names " + named.group(1) + ", which is there", Files.exists(Path.of(named.group(1))), true);
        }
        boolean namesTheScript = readme.contains("\n    .ci/run\n");
        tester.due("README names the script that runs the tests", namesTheScript, true);
        tester.due("the script can be run", Files.isExecutable(Path.of(".ci/run")), true);
    }
}
