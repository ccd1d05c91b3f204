/** Every method with arguments at and beyond all limits, in several states: the answers of the model, and no exception. */
final class ExtremesTest {
    private static final int[] VALUES = {Integer.MIN_VALUE, Integer.MIN_VALUE + 1, -65536, -256, -32, -10, -9, -4, -3, -2, -1,
        0, 1, 2, 3, 7, 8, 9, 10, 11, 12, 19, 20, 21, 31, 32, 33, 63, 64, 98, 99, 100, 101, 254, 255, 256, 257, 511, 512,
        65536, 1 << 30, Integer.MAX_VALUE - 1, Integer.MAX_VALUE};
    private static final long[] ROWS = {Long.MIN_VALUE, Long.MIN_VALUE + 1, -70000, -1, 0, 1, 70000, 99999, 100000,
        9999999999L, 10000000000L, 999999999999999L, 1000000000000000L, Long.MAX_VALUE};
    private static final String[] TEXTS = {"", "M", "M3", "M0g0", "M0r", "M0l98", "M1g2rrl20g5k01001k12002k23003",
        "M0g9g9g9g9g9g9g9g9k01999k02999k03999k04999k05999k06999k07999k12999k13999",
        "M9g9rrrrrrl98k01999k12999k23999k34999k45999k56999k67999k70991k20111"};

    public static void main(String[] args) {
        for (String text : TEXTS) {
            for (int state = 0; state < 3; state++) {
                Check.test("state " + state + " of " + text);
                play(text, state);
            }
        }
        Check.end();
    }

    private static void play(String text, int state) {
        MeshParents x = Check.withText(text);
        Model y = new Model();
        for (char c : text.toCharArray()) {
            y.write(c);
        }
        Check.due("mesh()", x.mesh(), y.mesh());
        if (state > 0) {
            Check.due("round(20)", x.round(20), y.round(20));
            for (int node = 0; node < 8; node++) {
                Check.due("see(node, 20, 1)", x.see(node, 20, 1), y.see(node, 20, 1));
            }
        }
        if (state > 1) {
            Check.due("turn(1)", x.turn(1), y.turn(1));
            Check.due("offset(0, 9)", x.offset(0, 9), y.offset(0, 9));
            Check.due("round(1)", x.round(1), y.round(1));
        }
        looks(x, y);
        changes(x, y);
        looks(x, y);
    }

    private static void looks(MeshParents x, Model y) {
        Check.due("still()", x.still(), y.still());
        Check.due("which()", x.which(), y.which());
        for (int a : VALUES) {
            Check.due("about(" + a + ")", x.about(a), y.about(a));
            Check.due("word(" + a + ")", x.word(a), y.word(a));
            Check.due("even(" + a + ")", x.even(a), y.even(a));
            for (int b : VALUES) {
                String two = "(" + a + ", " + b + ")";
                Check.due("node" + two, x.node(a, b), y.node(a, b));
                Check.due("link" + two, x.link(a, b), y.link(a, b));
                Check.due("price" + two, x.price(a, b), y.price(a, b));
                Check.due("safe" + two, x.safe(a, b), y.safe(a, b));
                Check.due("ahead(" + a + ", 1, " + b + ")", x.ahead(a, 1, b), y.ahead(a, 1, b));
                Check.due("ahead(99, " + a + ", " + b + ")", x.ahead(99, a, b), y.ahead(99, a, b));
            }
            for (long row : ROWS) {
                Check.due("judge(" + a + ", " + row + ")", x.judge(a, row), y.judge(a, row));
            }
        }
    }

    private static void changes(MeshParents x, Model y) {
        for (int a : VALUES) {
            Check.due("drawn(" + a + ")", x.drawn(a), y.drawn(a));
            if (a < 0 || a > 7 || y.node(a, 0) != 0 || y.about(2) != 255 || a == 3) {
                Check.due("share(" + a + ", true)", x.share(a, true), y.share(a, true));
            }
            if (a < 1 || a > 9) {
                Check.due("chance(" + a + ", false)", x.chance(a, false), y.chance(a, false));
            }
            Check.due("keep(" + a + ")", x.keep(a), y.keep(a));
            Check.due("turn(" + a + ")", x.turn(a), y.turn(a));
            Check.due("margin(" + a + ")", x.margin(a), y.margin(a));
            Check.due("round(" + a + ")", x.round(a), y.round(a));
            for (int b : VALUES) {
                Check.due("offset(" + a + ", " + b + ")", x.offset(a, b), y.offset(a, b));
                Check.due("lose(" + a + ", true, " + b + ")", x.lose(a, true, b), y.lose(a, true, b));
                Check.due("see(" + a + ", " + b + ", 1)", x.see(a, b, 1), y.see(a, b, 1));
                Check.due("see(0, " + a + ", " + b + ")", x.see(0, a, b), y.see(0, a, b));
            }
            Check.due("undo()", x.undo(), y.undo());
            Check.due("again(" + a + ")", x.again(a), y.again(a));
            Check.due("write(" + a + ")", x.write(a), y.write(a));
        }
    }
}
