import java.io.IOException;
import java.nio.file.Files;
import java.nio.file.Path;
import java.util.ArrayList;
import java.util.List;

/** README.md has the document's face, and its example stands here and answers what it says. */
public final class ReadmeTest {
    private static final Path README = Path.of("README.md");
    private static final Path DOCUMENT = Path.of("../shared/DOC.md");
    private static final Path CLASS = Path.of("src/main/java/CallRows.java");
    private static final Path THIS = Path.of("src/test/java/ReadmeTest.java");

    public static void main(String[] args) throws IOException {
        List<String> blocks = javaBlocks(README);
        Checks.due("how many blocks of Java README.md has", blocks.size(), 2);
        if (blocks.size() == 2) {
            dueDocumentsFace(blocks.get(0));
            dueClassHas(blocks.get(0));
            dueStandsHere(blocks.get(1));
        }
        dueTells(".ci/run");
        Sentences.run(ReadmeTest.class);
    }

    private static List<String> javaBlocks(Path file) throws IOException {
        List<String> blocks = new ArrayList<>();
        String[] parts = Files.readString(file).split("(?m)^```");
        for (String part : parts) {
            if (part.startsWith("java\n")) {
                blocks.add(part.substring("java\n".length()));
            }
        }
        return blocks;
    }

    private static void dueDocumentsFace(String face) throws IOException {
        if (!Files.exists(DOCUMENT)) {
            System.out.println(DOCUMENT + " is not here: README.md is not compared with it");
            return;
        }
        List<String> blocks = javaBlocks(DOCUMENT);
        if (blocks.size() != 1 || !blocks.get(0).equals(face)) {
            Checks.miss("README.md's face is not the one of " + DOCUMENT);
        }
    }

    /** The names of parameters are of the face too, and only the source has them. */
    private static void dueClassHas(String face) throws IOException {
        String source = Files.readString(CLASS);
        for (String line : face.lines().map(String::strip).toList()) {
            boolean isBody = line.endsWith(");") || line.contains(" throws ");
            String written = isBody ? line.substring(0, line.length() - 1) + " {" : line;
            if (!source.contains(written)) {
                Checks.miss(CLASS + " has no \"" + written + "\"");
            }
        }
    }

    private static void dueStandsHere(String example) throws IOException {
        String here = Files.readString(THIS).lines().map(String::strip).reduce("", (a, b) -> a + b + "\n");
        if (!here.contains(example)) {
            Checks.miss("the example in README.md is not the one in " + THIS);
        }
    }

    private static void dueTells(String command) throws IOException {
        if (!Files.readString(README).contains("```sh\n" + command + "\n```")) {
            Checks.miss("README.md does not tell the command " + command);
        }
        if (!Files.isExecutable(Path.of(command))) {
            Checks.miss(command + " can't be run");
        }
    }

    @Sentence(in = "What it is", says = "Programs that call one another, some within others: names are found "
        + "by rule, arguments are shared or copied, data stay from call to call or not, programs are cancelled.")
    private static void exampleAnswersWhatItSays() {
        CallRows x = new CallRows(10);      // at most 10 programs are active at once
        int outer = x.program(0, 1, 8);     // an outermost program of name 1, global
        int inner = x.program(outer, 2, 0); // one of name 2 directly within it
        int total = x.cell(outer, 100);     // a cell with the first value 100
        int seen = x.cell(inner, 0);
        x.formal(inner, 0, 2);              // formal 0: by reference, of 2 bytes
        x.formal(inner, 3, 8);              // formal 1: by value, of 8 bytes, optional

        x.call(0, 1);                       // no program runs, so from is 0
        x.enter();
        int callee = x.call(outer, 2);      // name 2 called from outer is inner
        x.actual(total, 0);                 // the cell is shared with formal 0; formal 1 is omitted
        x.enter();
        x.set(-1, -2);                      // formal 0; changes the lowest 2 bytes of the cell
        long changed = x.get(total);        // visible, as inner lies in outer, which is global: 65534
        x.set(seen, 1);
        int runs = x.leave(5);              // outer runs again
        long result = x.returned();         // 5
        int kept = x.state(inner);          // 1: its data stay until it is called again
        int cancelled = x.cancel(outer, 2); // 1: one program had data, and is fresh now
        int fresh = x.state(inner);         // 0

        Checks.due("callee", callee, inner);
        Checks.due("changed", changed, 65534);
        Checks.due("runs", runs, outer);
        Checks.due("result", result, 5);
        Checks.due("kept", kept, 1);
        Checks.due("cancelled", cancelled, 1);
        Checks.due("fresh", fresh, 0);
    }
}
