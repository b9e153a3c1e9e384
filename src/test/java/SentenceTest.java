import java.io.IOException;
import java.lang.reflect.InvocationTargetException;
import java.lang.reflect.Method;
import java.nio.charset.StandardCharsets;
import java.nio.file.Files;
import java.nio.file.Path;
import java.util.ArrayList;
import java.util.Arrays;
import java.util.Comparator;
import java.util.List;
import java.util.Set;
import java.util.TreeSet;
import java.util.function.Supplier;

/**
 * Runs the tests of the document's sentences, and holds them against the document itself: each of
 * its sentences has a test, and each test has a sentence of it. Run in the project's directory.
 */
public final class SentenceTest {
    private static final Path DOCUMENT = Path.of("../shared/DOC.md");

    private static final List<Supplier<Sentences>> GROUPS = List.of(TermsSentences::new,
            TermsOfWipingSentences::new, TermsOfExceptionsSentences::new, HandsSentences::new, CratesSentences::new,
            WipingSentences::new, MissingSentences::new, AskedSentences::new);

    public static void main(String[] args) throws IOException {
        Tester tester = new Tester();
        Set<String> tested = new TreeSet<>();
        for (Supplier<Sentences> group : GROUPS) {
            for (Method test : testsOf(group.get())) {
                runTest(tester, group.get(), test);
                tested.add(test.getAnnotation(Says.class).value());
            }
        }
        Set<String> said = sentences(Files.readAllLines(DOCUMENT, StandardCharsets.UTF_8));
        tester.due("sentences without a test", without(said, tested), Set.of());
        tester.due("tests without a sentence", without(tested, said), Set.of());
        System.out.println(tested.size() + " sentences have tests");
        tester.end();
    }

    private static List<Method> testsOf(Sentences group) {
        List<Method> tests = new ArrayList<>(Arrays.asList(group.getClass().getDeclaredMethods()));
        tests.removeIf(method -> !method.isAnnotationPresent(Says.class));
        tests.sort(Comparator.comparing(Method::getName));
        return tests;
    }

    private static void runTest(Tester tester, Sentences group, Method test) {
        group.begin(tester, test.getAnnotation(Says.class).value() + "\n    " + test.getName());
        try {
            test.invoke(group);
        } catch (InvocationTargetException e) {
            tester.due(test.getName() + " itself", e.getCause(), "nothing thrown");
        } catch (IllegalAccessException e) {
            throw new IllegalStateException(test.getName() + " can't be run", e);
        }
    }

    private static Set<String> without(Set<String> these, Set<String> others) {
        Set<String> left = new TreeSet<>(these);
        left.removeAll(others);
        return left;
    }

    /** What the document says of the class's behaviour, each sentence or row behind its heading. */
    private static Set<String> sentences(List<String> document) {
        Set<String> found = new TreeSet<>();
        String heading = "";
        for (String line : document) {
            if (line.startsWith("## ")) {
                heading = line.substring(3).replaceFirst("(Promise \\d+): .*", "$1");
            } else if (heading.startsWith("Promise ") && !line.isEmpty()) {
                found.add(heading + ": " + line.replaceFirst("^`.*?`: ", ""));
            } else if (heading.equals("Terms")) {
                addSentences(found, heading, line);
            } else if (heading.equals("What it is") && line.contains(" at most ")) {
                found.add(heading + ": " + line);
            }
        }
        return found;
    }

    /** Rubrics of one word, such as "Crates.", and what tells the interface's comments say nothing of behaviour. */
    private static void addSentences(Set<String> found, String heading, String line) {
        for (String sentence : line.split("(?<=\\.) (?=[A-Z])")) {
            if (!sentence.isEmpty() && !sentence.matches("\\w+\\.") && !sentence.startsWith("Ahead of the calls ")) {
                found.add(heading + ": " + sentence);
            }
        }
    }
}
