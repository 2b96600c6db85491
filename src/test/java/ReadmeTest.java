import java.io.IOException;
import java.nio.file.Files;
import java.nio.file.Path;
import java.util.ArrayList;
import java.util.HashMap;
import java.util.List;
import java.util.Map;
import java.util.regex.Matcher;
import java.util.regex.Pattern;

/** README.md's calls are those that stand here, and answer what it says behind them. */
public final class ReadmeTest {
    private static final Pattern ANSWERED = Pattern.compile("\\w+ (\\w+) = .*; +// (.*)");

    private final Checks checks = new Checks();
    private final Map<String, Object> answers = new HashMap<>();

    public static void main(String[] args) throws IOException {
        ReadmeTest test = new ReadmeTest();
        test.calls();
        test.lines();
        test.checks.end("ReadmeTest");
    }

    private void calls() {
        // as in README.md
        GrainYard x = new GrainYard();
        int yard = x.yard(3);                         // 0
        x.path(yard, 0, 1, 1);
        x.path(yard, 1, 2, 1);
        x.path(yard, 2, 0, 1);
        boolean whole = x.whole(yard);                // true
        long trees = x.trees(yard);                   // 3
        long parts = x.part(yard, GrainYard.NONE);    // 1
        long part = x.part(yard, 0);                  // 3

        int heap = x.heap(yard);                      // 0
        x.set(heap, 1, 3);
        long topplings = x.settle(heap);              // 1
        long grains = x.grains(heap, 2);              // 1
        long lost = x.grains(heap, 0);                // 1
        long toppled = x.toppled(heap, 1);            // 1
        boolean comesAgain = x.is(heap, 1);           // true

        int round = x.burns(heap, 2);                 // 1
        int leadsTo = x.tree(heap, 2, 0);             // 0
        int byPath = x.tree(heap, 2, 1);              // 0
        boolean grown = x.grow(heap, 2L);             // true
        long grainsGrown = x.grains(heap, 1);         // 0

        int other = x.heap(yard);                     // 1
        x.add(other, heap);
        x.become(other, 3);
        x.add(other, heap);
        long order = x.order(heap);                   // 3
        long orderOfSum = x.order(other);             // 1
        boolean alike = x.alike(heap, other);         // false
        // to here
        answers.putAll(Map.of("yard", yard, "whole", whole, "trees", trees, "parts", parts, "part", part));
        answers.putAll(Map.of("heap", heap, "topplings", topplings, "grains", grains, "lost", lost,
            "toppled", toppled, "comesAgain", comesAgain));
        answers.putAll(Map.of("round", round, "leadsTo", leadsTo, "byPath", byPath, "grown", grown,
            "grainsGrown", grainsGrown));
        answers.putAll(Map.of("other", other, "order", order, "orderOfSum", orderOfSum, "alike", alike));
    }

    private void lines() throws IOException {
        List<String> told = between("README.md", "```java", "```");
        List<String> made = between("src/test/java/ReadmeTest.java", "// as in README.md", "// to here");
        checks.due("the lines of README.md", made, () -> told);
        for (String line : told) {
            Matcher found = ANSWERED.matcher(line);
            if (found.matches()) {
                checks.due(line, found.group(2), () -> answers.remove(found.group(1)));
            }
        }
        checks.due("answers that README.md doesn't tell", "{}", () -> answers);
    }

    private static List<String> between(String file, String first, String last) throws IOException {
        List<String> found = new ArrayList<>();
        boolean inside = false;
        for (String line : Files.readAllLines(Path.of(file))) {
            String text = line.strip();
            if (inside && text.equals(last)) {
                return found;
            }
            if (inside) {
                found.add(text);
            }
            inside = inside || text.equals(first);
        }
        return found;
    }
}
