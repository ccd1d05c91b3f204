/** Promises 22 to 24: see, unsee and which. */
final class ObserveTest {
    private static final String LINE = "M1g2rrl20g5k01001k12002k23003";

    public static void main(String[] args) {
        see();
        unsee();
        which();
        whichIsNow();
        Check.end();
    }

    private static void see() {
        Check.test("promise 22");
        MeshParents x = Check.withMesh(LINE);
        Check.due("see(0, 0, 0)", x.see(0, 0, 0), 1);
        Check.due("see(4, 20, 1)", x.see(4, 20, 1), 2);
        Check.refused("see(5, 0, 0)", x, o -> o.see(5, 0, 0), Check.UNKNOWN);
        Check.refused("see(-1, 0, 0)", x, o -> o.see(-1, 0, 0), Check.UNKNOWN);
        Check.refused("see(5, 21, 2)", x, o -> o.see(5, 21, 2), Check.UNKNOWN);
        Check.refused("see(0, 21, 0)", x, o -> o.see(0, 21, 0), Check.BAD);
        Check.refused("see(0, -1, 0)", x, o -> o.see(0, -1, 0), Check.BAD);
        Check.refused("see(0, 0, 2)", x, o -> o.see(0, 0, 2), Check.BAD);
        Check.refused("see(0, 0, -1)", x, o -> o.see(0, 0, -1), Check.BAD);
        for (int n = 3; n <= 6; n++) {
            Check.due("the same once more", x.see(0, 0, 0), n);
        }
        Check.refused("see(0, 0, 0)", x, o -> o.see(0, 0, 0), Check.FULL);
        Check.refused("see(0, 0, 5)", x, o -> o.see(0, 0, 5), Check.BAD);
        Check.refused("see(9, 0, 0)", x, o -> o.see(9, 0, 0), Check.UNKNOWN);
        Check.due("about(9)", x.about(9), 0);
        Check.due("about(10)", x.about(10), 6);
    }

    private static void unsee() {
        Check.test("promise 23");
        MeshParents x = Check.withMesh(LINE);
        Check.due("unsee()", x.unsee(), 0);
        for (int n = 1; n <= 6; n++) {
            x.see(0, n, 0);
        }
        Check.due("which()", x.which(), 0);
        Check.due("unsee()", x.unsee(), 6);
        Check.due("about(10)", x.about(10), 0);
        Check.due("which()", x.which(), 7);
        Check.due("unsee()", x.unsee(), 0);
        Check.due("see(0, 20, 1)", x.see(0, 20, 1), 1);
        Check.due("which()", x.which(), 7);
    }

    private static void which() {
        Check.test("promise 24");
        MeshParents x = Check.withMesh(LINE);
        Check.changesNothing("which() without observations", x, o -> o.which(), 7);
        x.round(3);
        // the leaf sleeps in the next round and does not notice that its own link is down
        x.see(3, 1, 1);
        Check.changesNothing("which() with one", x, o -> o.which(), 0b100);
        x.see(3, 2, 0);
        Check.due("which() with two", x.which(), 0b100);
        x.see(2, 20, 0);
        Check.due("which() that nothing explains", x.which(), 0);
        x.unsee();
        x.see(3, 20, 0);
        Check.due("which() after twenty rounds", x.which(), 7);
        x.see(2, 20, 0);
        Check.due("which() of the router", x.which(), 3);
        // one round after the failure the second router does not know of it, but the first has lost its route
        x.see(2, 1, 0);
        Check.due("which() of the next round", x.which(), 3);
        x.see(1, 20, 1);
        Check.due("which() of the second link", x.which(), 2);
        x.see(3, 0, 1);
        Check.due("which() of this moment", x.which(), 2);
        x.see(3, 0, 0);
        Check.due("which() of a contradiction", x.which(), 0);
        MeshParents empty = new MeshParents();
        Check.due("which() of nothing", empty.which(), 0);
    }

    private static void whichIsNow() {
        Check.test("promise 24, now");
        MeshParents x = Check.withMesh(LINE);
        x.see(3, 1, 1);
        Check.due("which() before the routes", x.which(), 0);
        x.round(3);
        Check.due("which() after three rounds", x.which(), 4);
        x.round(1);
        // the routes of all nodes on the way break in the next round, and the leaf is awake in it
        Check.due("which() when the leaf is awake next", x.which(), 0);
        x.turn(1);
        x.unsee();
        Check.due("links that are down are none of them", x.which(), 5);
        x.see(3, 20, 0);
        Check.due("which() with a link down already", x.which(), 5);
        x.turn(1);
        // the observations stay, but node 3 is none of the next mesh
        x.wipe();
        Check.writeAll(x, "M0g0rk01001");
        x.mesh();
        Check.due("about(10)", x.about(10), 1);
        Check.due("which() where the node is missing", x.which(), 1);
        x.wipe();
        Check.writeAll(x, "M0g0rrl10k01001k02001k03001");
        x.mesh();
        x.unsee();
        x.see(3, 5, 1);
        Check.due("which() with it", x.which(), 3);
        x.wipe();
        Check.writeAll(x, "M0g0rk01001");
        x.mesh();
        Check.due("which() without it", x.which(), 0);
    }
}
