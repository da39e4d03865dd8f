import java.io.IOException;
import java.nio.file.Files;
import java.nio.file.Path;
import java.util.ArrayList;
import java.util.List;

/** README.md's example is the code that stands here, answers what its comments say, and names every call. */
public final class ReadmeTest {
    private static final Checks CHECKS = new Checks();

    public static void main(String[] args) throws IOException {
        exampleAnswers();
        List<String> readme = Files.readAllLines(Path.of("README.md"));
        List<String> source = Files.readAllLines(Path.of("src/test/java/ReadmeTest.java"));
        List<String> shown = between(readme, "```java", "```");
        List<String> tested = between(source, "// The example begins.", "// The example ends.");
        CHECKS.due("README.md shows an example", shown.size() > 5, true);
        CHECKS.due("README.md's example is the tested one", shown.equals(tested), true);
        String all = String.join("\n", readme);
        for (String call : new String[] {"turn(on)", "mending(is)", "take(n, w)", "state()", "count(what)", "size()",
            "byteAt(k)", "put(b)", "send()", "sent(k)"}) {
            CHECKS.due("README.md tells of " + call, all.contains("`" + call + "`"), true);
        }
        CHECKS.due("README.md tells how to run the tests", all.contains("bash .ci/run"), true);
        CHECKS.end();
    }

    private static void exampleAnswers() {
        // The example begins.
        CodeBlocks sender = new CodeBlocks();
        sender.put(1);                       // bytes that are to be sent, 259 at most
        sender.put(2);
        int length = sender.send();          // START, one block and TAIL: 2 + 8 + 8 bytes

        CodeBlocks receiver = new CodeBlocks();
        receiver.turn(true);                 // it searches from now on
        receiver.mending(true);              // one wrong bit in a START or a block is mended
        int ended = 0;
        for (int k = 0; k < length; k++) {
            int wrong = k == 3 ? 16 : 0;     // the link turns one bit round
            ended += receiver.take(8, sender.sent(k) ^ wrong);
        }
        int first = receiver.byteAt(0);      // 1
        int second = receiver.byteAt(1);     // 2
        int third = receiver.byteAt(2);      // 85, as the four behind it: they fill the block
        int none = receiver.byteAt(7);       // NONE
        // The example ends.
        CHECKS.due("length", length, 2 + 8 + 8);
        CHECKS.due("ended", ended, 1);
        CHECKS.dueReceived("the example", receiver, 1, 2, 85, 85, 85, 85, 85);
        CHECKS.due("first", first, 1);
        CHECKS.due("second", second, 2);
        CHECKS.due("third", third, 85);
        CHECKS.due("none", none, CodeBlocks.NONE);
        CHECKS.due("mended", receiver.count(3), 1);
    }

    /** The lines between the first two such lines, without the space that they begin with. */
    private static List<String> between(List<String> lines, String from, String to) {
        List<String> found = new ArrayList<>();
        boolean inside = false;
        for (String line : lines) {
            if (inside && line.strip().equals(to)) {
                return found;
            }
            if (inside) {
                found.add(line.strip());
            }
            inside = inside || line.strip().equals(from);
        }
        return List.of();
    }
}
