import java.io.IOException;
import java.nio.file.Files;
import java.nio.file.Path;
import java.util.ArrayList;
import java.util.List;
import java.util.regex.Matcher;
import java.util.regex.Pattern;

/**
 * README.md's example does what it says: each line that it shows is run here, as it stands there, and
 * the number behind its "//" is what it answers.
 */
public final class ReadmeTest {
    private static final Check check = new Check("readme");
    private static final Path README = Path.of("README.md");
    private static final Path HERE = Path.of("src/test/java/ReadmeTest.java");
    private static final Pattern ANSWER = Pattern.compile("// (-?\\d+)\\b.*");

    public static void main(String[] args) throws IOException {
        List<String> shown = example(README, "```java", "```");
        List<String> run = example(HERE, "// The example begins.", "// The example ends.");
        check.due("as many lines", shown.size(), run.size());
        for (int i = 0; i < shown.size() && i < run.size(); i++) {
            check.due("line " + i + ": " + shown.get(i), shown.get(i).equals(run.get(i)) ? 1 : 0, 1);
        }
        List<Long> told = new ArrayList<>();
        for (String line : shown) {
            Matcher m = ANSWER.matcher(line);
            if (m.find()) {
                told.add(Long.parseLong(m.group(1)));
            }
        }
        long[] answers = answers();
        check.due("as many answers", told.size(), answers.length);
        for (int i = 0; i < told.size() && i < answers.length; i++) {
            check.due("answer " + i, answers[i], told.get(i));
        }
        check.end();
    }

    private static List<String> example(Path file, String begin, String end) throws IOException {
        List<String> all = new ArrayList<>();
        boolean inside = false;
        for (String line : Files.readAllLines(file)) {
            String text = line.trim();
            if (inside && text.equals(end)) {
                return all;
            }
            if (inside && !text.isEmpty()) {
                all.add(text);
            }
            inside = inside || text.equals(begin);
        }
        return all;
    }

    private static long[] answers() {
        // The example begins.
        FormulaVoice f = new FormulaVoice();
        int a = f.leaf(0, 0);                    // 0: the letter a is NODE 0
        int b = f.leaf(0, 1);                    // 1: the letter b
        int sum = f.node(2, a, b);               // 2: a plus b
        int root = f.node(7, sum, 0);            // 3: the root of it
        int said = f.words(0, root);             // 8: begin root begin a plus b end end
        int bare = f.listen(1, root);            // 4: the ear has: root a plus b
        long ways = f.readings(1);               // 2: (root a) plus b, or root (a plus b)
        long place = f.place(1, root);           // 1: it is the second of them
        int doubt = f.doubt(1, 0, 1);            // 0: they are unlike at the top already
        int other = f.write(1, 0);               // 7: (root a) plus b, as NODES 4 to 7
        int few = f.fewest(root);                // 6: root begin a plus b end leaves no doubt
        int start = f.walk(other);               // 0: a walk begins at (root a) plus b
        int below = f.go(0);                     // 5: root a, its x
        int path = f.where(0);                   // 1: one step, to x
        int change = f.changed(root, other);     // 8: all of both is exchanged
        int kept = f.keep(0, 3, 0);              // 0: SHELF 0 gets the words of the ear
        long word = f.element(0, 1);             // 29: begin
        int refused = f.go(1);                   // -3: a root has no y
        // The example ends.
        return new long[] {a, b, sum, root, said, bare, ways, place, doubt, other, few, start, below, path,
            change, kept, word, refused};
    }
}
