import java.io.IOException;
import java.nio.file.Files;
import java.nio.file.Path;

/**
 * A section of the document, or a paragraph of one, and the tests of its sentences. A test is named by the
 * section, the sentence in the document's own words, and the edge of it that is tested. A name whose words
 * do not stand there is a fault, and so are words of the section that no test names.
 */
final class Section {
    private static final Path DOCUMENT = Path.of("..", "shared", "DOC.md");

    private final String name;
    private final String text;
    private final boolean[] tested;

    private Section(String name, String text) {
        this.name = name;
        this.text = text;
        tested = new boolean[text.length()];
    }

    static Section ofPromise(int number) {
        String name = "Promise " + number;
        // Before the words of a promise stands its method, which FaceTest tests.
        return new Section(name, inOneLine(partBehind("## " + name + ":").replaceFirst("`[^`]*`:", "")));
    }

    static Section headed(String heading) {
        return new Section(heading, inOneLine(partBehind("## " + heading + "\n")));
    }

    /** The paragraph of the terms that begins so, which these promises lean on. */
    static Section ofTerms(String beginning, String promises) {
        String name = "Terms, for " + promises;
        for (String paragraph : partBehind("## Terms\n").split("\n\\s*\n")) {
            if (paragraph.strip().startsWith(beginning)) {
                return new Section(name, inOneLine(paragraph));
            }
        }
        Check.fault("the document's terms have no paragraph that begins: " + beginning);
        return new Section(name, "");
    }

    private static String partBehind(String heading) {
        String all = document();
        int from = all.indexOf(heading);
        if (from < 0) {
            Check.fault("the document has no heading: " + heading.strip());
            return "";
        }
        from = all.indexOf('\n', from) + 1;
        int to = all.indexOf("\n## ", from);
        return to < 0 ? all.substring(from) : all.substring(from, to);
    }

    private static String document() {
        try {
            return Files.readString(DOCUMENT);
        } catch (IOException e) {
            Check.fault("the document can't be read: " + e);
            return "";
        }
    }

    private static String inOneLine(String text) {
        return text.strip().replaceAll("\\s+", " ");
    }

    void test(String sentence, String edge, Check.Call call) {
        int at = text.indexOf(sentence);
        if (at < 0) {
            Check.fault(name + " of the document does not say: " + sentence);
        }
        for (int i = at; at >= 0 && i < at + sentence.length(); i++) {
            tested[i] = true;
        }
        Check.test(name + ", \"" + sentence + "\": " + edge, call);
    }

    /** To be called when all tests of the section were run. */
    void end() {
        StringBuilder left = new StringBuilder();
        for (int i = 0; i < tested.length; i++) {
            left.append(tested[i] ? ' ' : text.charAt(i));
        }
        if (!left.toString().isBlank()) {
            Check.fault(name + " has words without a test: " + inOneLine(left.toString()));
        }
    }
}
