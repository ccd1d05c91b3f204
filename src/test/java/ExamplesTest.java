import java.nio.file.Path;
import java.util.List;

/** The examples 1 to 4 of the document, each on a new object, and the constants. */
final class ExamplesTest {
    public static void main(String[] args) throws Exception {
        constants();
        example1();
        example2();
        example3();
        example4();
        asTheDocumentTells(new Doc(Path.of(args[1])), Path.of(args[3]));
        Check.end();
    }

    /** The calls as they stand in the document, so that none is left out or told otherwise here. */
    private static void asTheDocumentTells(Doc doc, Path folder) throws Exception {
        for (int number = 1; number <= 4; number++) {
            List<String> lines = Shown.example(doc, number);
            Check.holds("example " + number + " has " + lines.size() + " lines", lines.size() > 10);
            Shown.run("Example" + number, lines, folder);
        }
    }

    private static void writeEach(MeshParents x, int... letters) {
        for (int i = 0; i < letters.length; i++) {
            Check.due("write(" + letters[i] + ")", x.write(letters[i]), i + 1);
        }
    }

    private static void constants() {
        Check.test("constants");
        Check.due("UNKNOWN", MeshParents.UNKNOWN, -1);
        Check.due("BAD", MeshParents.BAD, -2);
        Check.due("LATE", MeshParents.LATE, -3);
        Check.due("FULL", MeshParents.FULL, -4);
        Check.due("NONE", MeshParents.NONE, -9);
    }

    private static void example1() {
        Check.test("example 1");
        MeshParents x = new MeshParents();
        writeEach(x, 77, 48, 103, 48, 114, 107, 48, 49, 49, 49, 53);
        Check.due("mesh()", x.mesh(), 2);
        Check.due("round(1)", x.round(1), 2);
        Check.due("node(1, 4)", x.node(1, 4), 7);
        Check.due("turn(0)", x.turn(0), 1);
        Check.due("round(1)", x.round(1), 1);
    }

    private static void example2() {
        Check.test("example 2");
        MeshParents x = new MeshParents();
        writeEach(x, 77, 49, 103, 51, 108, 50, 49, 107, 48, 48);
        Check.due("fault()", x.fault(), 9);
        Check.due("mesh()", x.mesh(), -3);
        Check.due("wipe()", x.wipe(), 10);
        Check.due("mesh()", x.mesh(), -3);
        Check.due("about(0)", x.about(0), 0);
        Check.due("share(0, true)", x.share(0, true), -1);
    }

    private static void example3() {
        Check.test("example 3");
        MeshParents x = new MeshParents();
        writeEach(x, 77, 48, 103, 48, 103, 50, 114);
        Check.due("mesh()", x.mesh(), 3);
        Check.due("still()", x.still(), 0);
        Check.due("word(0)", x.word(0), 0);
        Check.due("even(1)", x.even(1), 0);
        Check.due("judge(2, 4011040200)", x.judge(2, 4011040200L), 0);
        Check.due("chance(10, false)", x.chance(10, false), 1);
        Check.due("price(0, 1)", x.price(0, 1), -2);
        Check.due("safe(1, 2)", x.safe(1, 2), -9);
        Check.due("seed(5)", x.seed(5L), 0);
    }

    private static void example4() {
        Check.test("example 4");
        MeshParents x = new MeshParents();
        Check.due("round(1)", x.round(1), 0);
        Check.due("undo()", x.undo(), 0);
        Check.due("undo()", x.undo(), -3);
        Check.due("drawn(2)", x.drawn(2), 0);
        Check.due("seed(0)", x.seed(0L), 1876011003808476466L);
        Check.due("judge(1, 70000)", x.judge(1, 70000L), -9);
        Check.due("judge(1, 12300)", x.judge(1, 12300L), -9);
        Check.due("chance(0, true)", x.chance(0, true), 1);
        Check.due("keep(2)", x.keep(2), -1);
        Check.due("again(1)", x.again(1), -3);
        Check.due("see(0, 0, 0)", x.see(0, 0, 0), -1);
        Check.due("which()", x.which(), 0);
        Check.due("still()", x.still(), 0);
        Check.due("margin(4)", x.margin(4), 0);
        Check.due("about(9)", x.about(9), 1);
        Check.due("drawn(21)", x.drawn(21), -2);
    }
}
