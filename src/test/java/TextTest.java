/** Promises 1 to 5: a new object, write, wipe, fault and mesh. */
final class TextTest {
    public static void main(String[] args) {
        newObject();
        write();
        wipe();
        faultOfEachPart();
        faultOfLinks();
        faultOfLimits();
        mesh();
        meshForgets();
        Check.end();
    }

    private static void newObject() {
        Check.test("promise 1");
        MeshParents x = new MeshParents();
        for (int what = 0; what <= 11; what++) {
            Check.due("about(" + what + ")", x.about(what), 0);
        }
        Check.due("node(0, 0)", x.node(0, 0), Check.UNKNOWN);
        Check.due("link(0, 0)", x.link(0, 0), Check.UNKNOWN);
        Check.due("fault()", x.fault(), 0);
        Check.due("undo()", x.undo(), Check.LATE);
        Check.due("again(0)", x.again(0), Check.LATE);
        Check.due("again(1)", x.again(1), Check.LATE);
        Check.due("seed(1)", x.seed(1L), 0);
        Check.due("unsee()", x.unsee(), 0);
        MeshParents other = new MeshParents();
        Check.due("seed(0) of another object", other.seed(0L), 0);
    }

    private static void write() {
        Check.test("promise 2");
        MeshParents x = new MeshParents();
        Check.due("write(0)", x.write(0), 1);
        Check.due("write(255)", x.write(255), 2);
        Check.refused("write(-1)", x, o -> o.write(-1), Check.BAD);
        Check.refused("write(256)", x, o -> o.write(256), Check.BAD);
        Check.refused("write(MIN)", x, o -> o.write(Integer.MIN_VALUE), Check.BAD);
        Check.refused("write(MAX)", x, o -> o.write(Integer.MAX_VALUE), Check.BAD);
        // a letter beyond 255 must not be taken for the one that its low bits give
        Check.refused("write(256 + 'M')", x, o -> o.write(256 + 'M'), Check.BAD);
        for (int n = 3; n <= 100; n++) {
            Check.due("write " + n, x.write('r'), n);
        }
        Check.due("about(11)", x.about(11), 100);
        Check.refused("write('r') beyond 100", x, o -> o.write('r'), Check.FULL);
        Check.refused("write(256) beyond 100", x, o -> o.write(256), Check.BAD);
        Check.due("wipe()", x.wipe(), 100);
        Check.due("write('M')", x.write('M'), 1);
    }

    private static void wipe() {
        Check.test("promise 3");
        MeshParents x = new MeshParents();
        Check.due("wipe() of nothing", x.wipe(), 0);
        Check.writeAll(x, "M3g1r");
        Check.due("wipe()", x.wipe(), 5);
        Check.due("about(11)", x.about(11), 0);
        Check.due("fault()", x.fault(), 0);
        Check.due("wipe() again", x.wipe(), 0);
        MeshParents y = Check.withMesh("M3g1rk01001");
        y.round(2);
        y.keep(0);
        y.seed(9L);
        y.see(1, 2, 1);
        Check.due("wipe() of a mesh's text", y.wipe(), 11);
        Check.due("the nodes stay", y.about(0), 2);
        Check.due("the rounds stay", y.about(6), 2);
        Check.due("the change stays", y.about(9), 1);
        Check.due("the observation stays", y.about(10), 1);
        Check.due("what was saved stays", y.again(0), 2);
        Check.due("the random number stays", y.seed(0L), 9);
    }

    private static void faultIs(String text, int want) {
        MeshParents x = Check.withText(text);
        Check.changesNothing("fault() of " + text, x, o -> o.fault(), want);
        Check.refusedIfFaulty(text, x);
    }

    private static void faultOfEachPart() {
        Check.test("promise 4, parts");
        faultIs("", 0);
        faultIs("m", 0);
        faultIs("g", 0);
        faultIs("M", 1);
        faultIs("MM", 1);
        faultIs("M/", 1);
        faultIs("M:", 1);
        faultIs("M0", Check.NONE);
        faultIs("M9", Check.NONE);
        faultIs("M00", 2);
        faultIs("M0 ", 2);
        faultIs("M0x", 2);
        faultIs("M0G", 2);
        faultIs("M0g", 3);
        faultIs("M0gg", 3);
        faultIs("M0g/", 3);
        faultIs("M0g:", 3);
        faultIs("M0g0", Check.NONE);
        faultIs("M0g9", Check.NONE);
        faultIs("M0g99", 4);
        faultIs("M0r", Check.NONE);
        faultIs("M0r0", 3);
        faultIs("M0l", 3);
        faultIs("M0l0", 3);
        faultIs("M0l1", 4);
        faultIs("M0l10", Check.NONE);
        faultIs("M0l11", 4);
        faultIs("M0l98", Check.NONE);
        faultIs("M0l99", 4);
        faultIs("M0l33", 4);
        faultIs("M0l3r", 4);
        faultIs("M0lr", 3);
        faultIs("M0" + (char) 0, 2);
        faultIs("M0" + (char) 255, 2);
    }

    private static void faultOfLinks() {
        Check.test("promise 4, links");
        faultIs("M0k", 2);
        faultIs("M0rk", 3);
        faultIs("M0rrk", 5);
        faultIs("M0rrkk", 5);
        faultIs("M0rrk2", 5);
        faultIs("M0rrk9", 5);
        faultIs("M0rrk0", 6);
        faultIs("M0rrk00", 6);
        faultIs("M0rrk02", 6);
        faultIs("M0rrk01", 7);
        faultIs("M0rrk01r", 7);
        faultIs("M0rrk010", 8);
        faultIs("M0rrk019k", 8);
        faultIs("M0rrk0199", 9);
        faultIs("M0rrk01990", 9);
        faultIs("M0rrk01991", Check.NONE);
        faultIs("M0rrk10009", Check.NONE);
        // the two nodes have their link: no other k
        faultIs("M0rrk01001k", 10);
        faultIs("M0rrk01001rk", 12);
        // 0 has a link to each other node, so it can't stand first
        faultIs("M0rrrk01001k02001k0", 18);
        faultIs("M0rrrk10001k02001k0", 18);
        faultIs("M0rrrk01001k02001k1", 19);
        faultIs("M0rrrk01001k02001k10", 19);
        faultIs("M0rrrk01001k02001k11", 19);
        faultIs("M0rrrk01001k02001k12", 20);
        faultIs("M0rrrk01001k02001k12001", Check.NONE);
        faultIs("M0rrrk01001k02001k12001k", 23);
        // the same two nodes the other way round
        faultIs("M0rrrk01001k10", 13);
        // a node that only stands behind
        faultIs("M0rrk02001r", 6);
        faultIs("M0rrk01001rk02001", Check.NONE);
        faultIs("M0gk01", 3);
        faultIs("M0g0l10k01001", Check.NONE);
    }

    private static void faultOfLimits() {
        Check.test("promise 4, limits");
        String eight = "M0rrrrrrrr";
        faultIs(eight, Check.NONE);
        faultIs(eight + "r", 10);
        faultIs(eight + "g", 10);
        faultIs(eight + "g0", 10);
        faultIs(eight + "l", 10);
        faultIs(eight + "k", 11);
        faultIs("M0g1g2g3g4l10l21l32g9", Check.NONE);
        faultIs("M0g1g2g3g4l10l21l32g9l10", 21);
        String nine = eight + "k01001k02001k03001k04001k05001k06001k07001k12001k13001";
        faultIs(nine, Check.NONE);
        faultIs(nine + "k", nine.length());
        faultIs(nine + "r", nine.length());
        faultIs(nine.substring(0, nine.length() - 6) + "k0", nine.length() - 5);
        String nodesAfter = "M0rrrrrk01001k02001k03001k04001k12001k13001k14001k23001k24001";
        faultIs(nodesAfter + "rrr", Check.NONE);
        faultIs(nodesAfter + "rrrr", nodesAfter.length() + 3);
        faultIs(nodesAfter + "k", nodesAfter.length());
        // the longest mesh text: eight leaves and nine links
        String longest = "M0l10l10l10l10l10l10l10l10" + nine.substring(10);
        faultIs(longest, Check.NONE);
        Check.due("its length", longest.length(), 80);
        MeshParents x = Check.withText("M0" + "x".repeat(98));
        Check.due("fault() of a full text", x.fault(), 2);
    }

    private static void mesh() {
        Check.test("promise 5");
        MeshParents x = Check.withText("M7g3rl52k01345k21906");
        Check.due("mesh()", x.mesh(), 3);
        Check.due("about(0)", x.about(0), 3);
        Check.due("about(1)", x.about(1), 2);
        Check.due("about(4)", x.about(4), 7);
        int[][] nodes = {{0, 3, 0}, {1, 0, 0}, {2, 5, 2}};
        for (int node = 0; node < 3; node++) {
            for (int what = 0; what < 3; what++) {
                Check.due("node(" + node + ", " + what + ")", x.node(node, what), nodes[node][what]);
            }
        }
        int[][] links = {{0, 1, 3, 4, 5, 12, 0}, {2, 1, 9, 0, 6, 60, 0}};
        for (int link = 0; link < 2; link++) {
            for (int what = 0; what < 7; what++) {
                Check.due("link(" + link + ", " + what + ")", x.link(link, what), links[link][what]);
            }
        }
        Check.due("about(11)", x.about(11), 20);
        Check.due("mesh() once more", x.mesh(), 3);
        x.wipe();
        Check.refused("mesh() of an empty text", x, o -> o.mesh(), Check.LATE);
        Check.writeAll(x, "M5");
        Check.due("mesh() without nodes", x.mesh(), 0);
        Check.due("about(1)", x.about(1), 0);
        Check.due("about(4)", x.about(4), 5);
        Check.due("node(0, 0)", x.node(0, 0), Check.UNKNOWN);
    }

    private static void meshForgets() {
        Check.test("promise 5, what goes and what stays");
        MeshParents x = Check.withMesh("M2g0rk01001");
        x.round(1);
        x.offset(0, 9);
        x.round(3);
        x.lose(0, false, 5);
        x.margin(8);
        x.turn(0);
        x.keep(0);
        x.keep(1);
        x.see(1, 4, 1);
        x.seed(77L);
        x.write('k');
        Check.refused("mesh() of a text with a fault", x, o -> o.mesh(), Check.LATE);
        Check.due("what is saved stays after LATE", x.again(1), 4);
        x.keep(0);
        x.turn(0);
        x.wipe();
        Check.writeAll(x, "M2g0rk01001");
        Check.due("mesh()", x.mesh(), 2);
        int[] about = {2, 1, 1, 0, 2, 0, 0, 1, 0, 0, 1, 11};
        for (int what = 0; what < 12; what++) {
            Check.due("about(" + what + ")", x.about(what), about[what]);
        }
        int[] router = {1, 0, 0, -9, -9, -9, 0, 9999, -9, -9};
        for (int what = 0; what < 10; what++) {
            Check.due("node(1, " + what + ")", x.node(1, what), router[what]);
        }
        Check.due("node(0, 1)", x.node(0, 1), 0);
        Check.due("link(0, 2)", x.link(0, 2), 0);
        Check.due("link(0, 5)", x.link(0, 5), 1);
        Check.due("undo()", x.undo(), Check.LATE);
        Check.due("again(0)", x.again(0), Check.LATE);
        Check.due("again(1)", x.again(1), Check.LATE);
        Check.due("seed(0)", x.seed(0L), 77);
    }
}
