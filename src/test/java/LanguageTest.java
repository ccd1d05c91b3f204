import java.io.IOException;
import java.nio.charset.StandardCharsets;
import java.nio.file.Files;
import java.nio.file.Path;
import java.util.List;

/** The rules of LANGUAGE.md, one by one, on the tree of the source; and that a source which breaks one is found out. */
final class LanguageTest {
    private static final String HEAD = "import java.util.ArrayList; import java.util.Arrays;"
        + " public final class MeshParents { private int f; private int[] row; private static final int[] A = {1, 2};"
        + " private static final class P { int q; } public int lose(int v) { return v; } ";

    /** Each breaks the rule before it. */
    private static final String[][] WRONG = {
        {"1", "int g;"},
        {"1", "protected static final int G = 1;"},
        {"1", "int g() { return 1; }"},
        {"1", "private int lose() { return 1; }"},
        {"1", "private static final class Q { int lose() { return 1; } }"},
        {"1", "public static final class Q { }"},
        {"2", "private final class Q { }"},
        {"2", "private int g() { class Q { } return 1; }"},
        {"2", "private Iterable<Integer> g() { return () -> null; }"},
        {"2", "private Comparable<P> g() { return this::lose2; } private int lose2(P p) { return 1; }"},
        {"2", "private P2 g() { return new P2() { }; } private static class P2 { }"},
        {"2", "private @interface Q { }"},
        {"3", "private Object g;"},
        {"3", "private int[][][] g;"},
        {"3", "private P[][] g;"},
        {"3", "private String[] g;"},
        {"3", "private boolean[][] g;"},
        {"3", "private Thread g() { return null; }"},
        {"3", "private double g;"},
        {"4", "private int g() { return Math.addExact(f, 1); }"},
        {"4", "private int g(String s) { return s.hashCode(); }"},
        {"4", "private int g() { System.gc(); return 1; }"},
        {"4", "private long g() { return System.nanoTime(); }"},
        {"4", "private int g() { return Math.round(1.5f); }"},
        {"4", "private int g() { return Integer.MAX_VALUE; }"},
        {"4", "private int g() { new java.util.Random(); return 1; }"},
        {"4", "private int g() { Arrays.sort(row); return 1; }"},
        {"4", "private char g() { return '\u00e9'; }"},
        {"5", "private static int g;"},
        {"5", "private static final P G = new P();"},
        {"5", "private static final int[] G = new int[3];"},
        {"5", "private static final boolean[] G = {true};"},
        {"5", "static { }"},
        {"5", "private int g() { A[0] = 1; return 1; }"},
        {"5", "private int g() { A[0] += 1; return 1; }"},
        {"5", "private int g() { return A[0]++; }"},
        {"5", "private int[] g() { return A; }"},
        {"6", "private int g() { throw null; }"},
        {"6", "private int g() { try { return 1; } finally { f = 2; } }"},
        {"6", "private int g() { assert f > 0; return 1; }"},
        {"6", "private int g() { synchronized (row) { return 1; } }"},
        {"6", "private int g() throws RuntimeException { return 1; }"},
        {"6", "private boolean g(String a, String b) { return a == b; }"},
        {"6", "private boolean g(Integer a, Integer b) { return a != b; }"},
        {"6", "public String toString() { return null; }"},
        {"8", "private int g(int n) { return n > 0 ? g(n - 1) : 0; }"},
        {"8", "private int g(int n) { return h(n); } private int h(int n) { return n > 0 ? g(n - 1) : 0; }"},
        {"9", "private int g() { while (f > 0) { f--; } return 1; }"},
        {"9", "private int g() { do { f--; } while (f > 0); return 1; }"},
        {"9", "private int g() { for (;;) { f++; } }"},
        {"9", "private int g() { for (int i = 0; f < 3; i++) { f--; } return 1; }"},
        {"9", "private int g() { for (int i = 0; i < 3 || f > 0; i++) { f = 1; } return 1; }"},
        {"9", "private int g() { for (int i = 0; i < 3; i++) { i--; } return 1; }"},
        {"9", "private int g() { for (int i = 0; i < f; i++) { this.f += 1; } return 1; }"},
        {"9", "private int g() { for (int i = 9; i > 0; i++) { f = 1; } return 1; }"},
        {"10", "private String g(String s) { return s + 1; }"},
        {"10", "private String g(String s) { s += 'a'; return s; }"},
        {"11", "private int g(int a, int b, int c, int d, int e, int g, int h, int i) { return 1; }"},
        {"11", "private int g() {" + "\n".repeat(60) + "return 1; }"},
        {"11", "private int g;" + "private P %;".repeat(19)},
        {"11", "private static final class Q% { }".repeat(11)},
        {"11", "private int g1() { return g2(); } private int g2() { return g3(); } private int g3() { return g4(); }"
            + " private int g4() { return g5(); } private int g5() { return g6(); } private int g6() { return g7(); }"
            + " private int g7() { return g8(); } private int g8() { return g9(); } private int g9() { return 1; }"},
        {"12", "private static class Q { Q() { part(); } void part() { } }"},
        {"12", "private static final class Q { Q other; Q() { other = this; } }"},
    };

    /** What the rules let pass, up to their limits. */
    private static final String[] RIGHT = {
        "",
        "private P[] g() { return null; }",
        "private static final class Q { int[][] rows; String text; ArrayList<Integer> all = new ArrayList<>(); }",
        "private int g() { return Math.max(f, Integer.bitCount(f)) + Math.floorMod(7, 3) + A.length + A[1]; }",
        "private int[] g() { return Arrays.copyOf(row.clone(), 3); }",
        "private String g() { StringBuilder b = new StringBuilder(); b.append('a').append(1); return b.toString(); }",
        "private boolean g(String a, P p) { return a.equals(\"b\") || p == null; }",
        "private int g() { for (int i = 0; i < 3 && f > 0; i++) { f--; } for (int x : row) { f += x; } return 1; }",
        "private int g(int a, int b, int c, int d, int e, int g, int h) { return 1; }",
        "private int g() {" + "\n".repeat(59) + "return 1; }",
        "private P %;".repeat(18),
        "private static final class Q% { }".repeat(10),
        "private int g1() { return g2(); } private int g2() { return g3(); } private int g3() { return g4(); }"
            + " private int g4() { return g5(); } private int g5() { return g6(); } private int g6() { return g7(); }"
            + " private int g7() { return g8(); } private int g8() { return 1; }",
        "private static final class Q { int n; Q() { this.n = part(); } private int part() { return 1; } }",
    };

    public static void main(String[] args) throws IOException {
        Check.test("the class");
        for (String fault : Rules.faults(Files.readString(Path.of(args[0]), StandardCharsets.ISO_8859_1))) {
            Check.holds(fault, false);
        }
        for (String[] wrong : WRONG) {
            Check.test("wrong by rule " + wrong[0] + ": " + wrong[1]);
            List<String> faults = Rules.faults(HEAD + numbered(wrong[1]) + "}");
            Check.holds("found were " + faults, faults.stream().anyMatch(f -> f.startsWith("rule " + wrong[0] + ",")));
        }
        for (String right : RIGHT) {
            Check.test("right: " + right);
            List<String> faults = Rules.faults(HEAD + numbered(right) + "}");
            Check.holds("found were " + faults, faults.isEmpty());
        }
        Check.end();
    }

    /** Each % becomes a name of its own. */
    private static String numbered(String snippet) {
        StringBuilder all = new StringBuilder();
        for (char sign : snippet.toCharArray()) {
            all.append(sign == '%' ? "n" + all.length() : sign);
        }
        return all.toString();
    }
}
