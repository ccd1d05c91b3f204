import java.io.IOException;
import java.lang.reflect.Method;
import java.lang.reflect.Modifier;
import java.nio.charset.StandardCharsets;
import java.nio.file.DirectoryStream;
import java.nio.file.Files;
import java.nio.file.Path;
import java.util.List;
import java.util.regex.Matcher;
import java.util.regex.Pattern;

/** README.md: the calls that it shows answer as it says, and it leaves out no error, no method and no test. */
final class ReadmeTest {
    private static final Pattern ERROR = Pattern.compile("\\| `([A-Z]+)` \\| (-\\d+) \\| .+");
    private static final Pattern TEST = Pattern.compile("\\| (\\w+Test) \\| .+");

    public static void main(String[] args) throws Exception {
        Path readme = Path.of(args[2]);
        List<String> lines = Files.readAllLines(readme, StandardCharsets.UTF_8);
        List<List<String>> blocks = Shown.blocks(lines);
        for (int block = 0; block < blocks.size(); block++) {
            Shown.run("Readme" + block, blocks.get(block), Path.of(args[3]));
        }
        Check.test("README.md");
        hasEachMethod(blocks);
        hasExampleOfDocument(blocks, new Doc(Path.of(args[1])));
        tellsErrors(lines);
        tellsTests(lines, readme.toAbsolutePath().resolveSibling("src/test/java"));
        Check.end();
    }

    private static void hasEachMethod(List<List<String>> blocks) {
        String all = blocks.toString();
        for (Method method : MeshParents.class.getDeclaredMethods()) {
            if (Modifier.isPublic(method.getModifiers())) {
                Check.holds("no call of " + method.getName(), all.contains("x." + method.getName() + "("));
            }
        }
    }

    private static void hasExampleOfDocument(List<List<String>> blocks, Doc doc) {
        List<String> example = Shown.calls(Shown.example(doc, 1));
        Check.holds("the document has no example 1", !example.isEmpty());
        Check.holds("no block is " + example, blocks.stream().map(Shown::calls).anyMatch(example::equals));
    }

    private static void tellsErrors(List<String> lines) throws ReflectiveOperationException {
        int count = 0;
        for (String line : lines) {
            Matcher error = ERROR.matcher(line);
            if (error.matches()) {
                count++;
                int value = MeshParents.class.getField(error.group(1)).getInt(null);
                Check.due(error.group(1), Integer.parseInt(error.group(2)), value);
            }
        }
        Check.due("names of errors", count, MeshParents.class.getFields().length);
    }

    private static void tellsTests(List<String> lines, Path folder) throws IOException {
        String all = lines.toString();
        Check.holds("how to run the tests", lines.contains("    sh .ci/run"));
        try (DirectoryStream<Path> files = Files.newDirectoryStream(folder, "*Test.java")) {
            for (Path file : files) {
                String name = file.getFileName().toString().replace(".java", "");
                Check.holds(name + " is not told", all.contains("| " + name + " | "));
            }
        }
        for (String line : lines) {
            Matcher test = TEST.matcher(line);
            Check.holds("there is no " + line, !test.matches() || Files.exists(folder.resolve(test.group(1) + ".java")));
        }
    }
}
