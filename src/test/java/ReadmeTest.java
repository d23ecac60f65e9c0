import java.io.IOException;
import java.lang.reflect.Method;
import java.lang.reflect.Modifier;
import java.nio.file.DirectoryStream;
import java.nio.file.Files;
import java.nio.file.Path;
import java.nio.file.Paths;

/** README.md tells of every call and every test, and its example answers what it says. */
final class ReadmeTest {
    private static final Path README = Paths.get("README.md");
    private static final Path TESTS = Paths.get("src/test/java");

    public static void main(String[] args) throws IOException {
        Check check = new Check();
        String readme = Files.readString(README);
        example(check);
        sameExample(check, readme);
        everyCall(check, readme);
        everyTest(check, readme);
        check.end();
    }

    private static void example(Check check) {
        // begin of the example
        VotedFrames x = new VotedFrames(4, 1, 60);  // 4 nodes, 1 fault borne, DELTA 60
        x.sensor(0, 10);
        x.code(0, 1, 0);                            // task 0: IN 0,
        x.code(0, 0, 5);                            // NUM 5,
        x.code(0, 3, 0);                            // ADD
        x.due(0, 1, 0);                             // in every frame
        x.fault(2, 3, 7);                           // node 2 is TWO-FACED, with 7
        int struck = x.run(1);                      // 3: so often a node struck out a node
        int word = x.word(1, 0);                    // 15, voted on by node 1
        int alone = x.solo(0);                      // 15, of the single machine
        int accused = x.accused(1);                 // 4: node 1 accused node 2
        int members = x.members(1);                 // 11: node 2 is struck out
        // end of the example
        check.due("struck", struck, 3);
        check.due("word", word, 15);
        check.due("alone", alone, 15);
        check.due("accused", accused, 4);
        check.due("members", members, 11);
    }

    /** The example is run from this file, so its lines here and there must be the same. */
    private static void sameExample(Check check, String readme) throws IOException {
        String source = Files.readString(TESTS.resolve("ReadmeTest.java"));
        String here = between(source, "// begin of the example\n", "// end of the example\n");
        String there = between(readme, "```java\n", "```\n");
        check.no("the example is empty", there.isBlank());
        check.yes("README.md has the example of this test", here.stripIndent().strip().equals(there.strip()));
    }

    private static String between(String text, String begin, String end) {
        int from = text.indexOf(begin);
        int to = from < 0 ? -1 : text.indexOf(end, from + begin.length());
        return to < 0 ? "" : text.substring(from + begin.length(), to);
    }

    private static void everyCall(Check check, String readme) {
        for (Method method : VotedFrames.class.getDeclaredMethods()) {
            if (Modifier.isPublic(method.getModifiers())) {
                String call = "`" + method.getName() + "(";
                check.yes("README.md tells of " + call, readme.contains(call));
            }
        }
    }

    private static void everyTest(Check check, String readme) throws IOException {
        try (DirectoryStream<Path> files = Files.newDirectoryStream(TESTS, "*Test.java")) {
            for (Path file : files) {
                String name = file.getFileName().toString().replace(".java", "");
                check.yes("README.md tells of " + name, readme.contains("`" + name + "`"));
            }
        }
    }
}
