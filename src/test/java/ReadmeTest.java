import java.io.IOException;
import java.nio.file.Files;
import java.nio.file.Path;
import java.util.List;

/** What README.md tells of the class is so: the answers of its example, and that every method is named. */
public final class ReadmeTest {
    private static final Path README = Path.of("README.md");
    private static final List<String> METHODS = List.of("allocate(n, silent)", "root(r, word)", "rooted(r)",
            "read(address)", "write(address, word)", "collect()", "base(address)", "size(address)", "silent(address)",
            "block(b)", "empty(b)", "objects()", "collections()");

    private static List<String> lines = List.of();

    public static void main(String[] args) {
        Check.test("README.md: it can be read", ReadmeTest::read);
        Check.test("README.md: the example's answers", ReadmeTest::example);
        Check.test("README.md: every method is told", ReadmeTest::methods);
        Check.test("README.md: how the tests are run", ReadmeTest::howToTest);
        Check.end();
    }

    private static void read() {
        try {
            lines = Files.readAllLines(README);
        } catch (IOException e) {
            Check.fault("it can't be read: " + e);
        }
    }

    private static void example() {
        told("GuessingHeap heap = new GuessingHeap();");
        GuessingHeap heap = new GuessingHeap();
        int list = heap.allocate(3, false);
        answers("int list = heap.allocate(3, false);", list);
        int text = heap.allocate(40, true);
        answers("int text = heap.allocate(40, true);", text);
        told("heap.root(0, list + 2);");
        heap.root(0, list + 2);
        answers("heap.write(list, text);", heap.write(list, text));
        answers("heap.collect();", heap.collect());
        answers("heap.base(text + 50);", heap.base(text + 50));
        answers("heap.size(text);", heap.size(text));
        told("heap.root(0, 4300);");
        heap.root(0, 4300);
        answers("heap.collect();", heap.collect());
        answers("heap.block(6);", heap.block(6));
    }

    private static void answers(String call, int answer) {
        Check.same("the README has the line: " + call + " // " + answer,
                lines.stream().anyMatch(line -> line.matches("\\Q" + call + "\\E +// " + answer + "(:.*)?")), true);
    }

    private static void told(String call) {
        Check.same("the README has the line: " + call, lines.stream().anyMatch(line -> line.startsWith(call)), true);
    }

    private static void methods() {
        for (String method : METHODS) {
            Check.same("the README tells of " + method,
                    lines.stream().anyMatch(line -> line.startsWith("| `" + method + "`")), true);
        }
    }

    private static void howToTest() {
        Check.same("the README names .ci/run", lines.contains("    .ci/run"), true);
    }
}
