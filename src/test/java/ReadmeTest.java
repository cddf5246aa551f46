import java.io.IOException;
import java.nio.file.Files;
import java.nio.file.Path;
import java.util.ArrayList;
import java.util.List;

/** The example of README.md: each line's call answers what the comment behind it says. */
public final class ReadmeTest extends Check {
    private static final List<String> SHOWN = new ArrayList<>();
    private static int line = 0;

    private static void readExample() throws IOException {
        for (String text : Files.readAllLines(Path.of("README.md"))) {
            if (text.startsWith("x.") && text.contains("// ")) {
                SHOWN.add(text);
            }
        }
    }

    /** The next line of the example with an answer is this call, with this answer. */
    private static void shown(String call, Object got) {
        String text = line < SHOWN.size() ? SHOWN.get(line) : "";
        line++;
        due("the call shown", text.startsWith(call + ";"), true);
        due(call, String.valueOf(got), text.substring(text.indexOf("// ") + 3).split(":")[0]);
    }

    private static void example() {
        WordGraph x = new WordGraph();
        shown("x.add(word(\"car\"))", x.add(word("car")));
        shown("x.add(word(\"cat\"))", x.add(word("cat")));
        shown("x.add(word(\"cab\"))", x.add(word("cab")));
        shown("x.add(word(\"dat\"))", x.add(word("dat")));
        shown("x.seal()", x.seal());
        shown("x.find(word(\"dat\"))", x.find(word("dat")));
        shown("x.nodes()", x.nodes());
        shown("x.step(0, 3)", x.step(0, 3));
        shown("x.endings(1)", x.endings(1));
        shown("x.ends(3)", x.ends(3));
        shown("x.search(word(\"cat\"), 1)", x.search(word("cat"), 1));
        shown("x.result(0)", x.result(0));
        shown("x.far(0)", x.far(0));
        shown("x.result(1)", x.result(1));
        shown("x.far(1)", x.far(1));
        shown("x.distance(word(\"at\"), 0)", x.distance(word("at"), 0));
        x.clear();
        shown("x.size()", x.size());
        due("lines shown", SHOWN.size(), line);
    }

    public static void main(String[] args) throws IOException {
        readExample();
        sentence("the example of README.md", ReadmeTest::example);
        finish();
    }
}
