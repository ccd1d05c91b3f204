/** Promises 11 to 16: round, turn, lose, offset, margin and undo. */
final class ChangeTest {
    public static void main(String[] args) {
        roundCounts();
        roundsAreSimultaneous();
        parentIsKept();
        parentIsLeft();
        bounds();
        asking();
        sleeping();
        turn();
        lose();
        offset();
        margin();
        undo();
        undoEverything();
        fourteenChanges();
        Check.end();
    }

    private static void routeIs(MeshParents x, int node, int parent, int cost, int sequence) {
        Check.due("parent of " + node, x.node(node, 3), parent);
        Check.due("cost of " + node, x.node(node, 4), cost);
        Check.due("sequence number of " + node, x.node(node, 5), sequence);
    }

    private static void boundIs(MeshParents x, int node, int sequence, int cost) {
        Check.due("bound's sequence number of " + node, x.node(node, 6), sequence);
        Check.due("bound's cost of " + node, x.node(node, 7), cost);
    }

    private static void roundCounts() {
        Check.test("promise 11");
        MeshParents x = Check.withMesh("M0g0rrrk01001k12001k23001g9");
        Check.due("round(1)", x.round(1), 3);
        Check.due("round(2)", x.round(2), 5);
        Check.due("about(6)", x.about(6), 3);
        Check.due("about(9)", x.about(9), 2);
        Check.due("round(99)", x.round(99), 5);
        Check.due("about(6)", x.about(6), 102);
        Check.due("about(9)", x.about(9), 3);
        Check.refused("round(0)", x, o -> o.round(0), Check.BAD);
        Check.refused("round(100)", x, o -> o.round(100), Check.BAD);
        Check.refused("round(-1)", x, o -> o.round(-1), Check.BAD);
        Check.refused("round(MIN)", x, o -> o.round(Integer.MIN_VALUE), Check.BAD);
        MeshParents empty = new MeshParents();
        Check.due("round(7) of nothing", empty.round(7), 0);
        Check.due("about(6)", empty.about(6), 7);
        MeshParents alone = Check.withMesh("M0rrk01001");
        Check.due("round(9) without gateways", alone.round(9), 0);
        Check.due("nobody was offered anything", alone.about(5), 0);
    }

    private static void roundsAreSimultaneous() {
        Check.test("promise 11, at the same time");
        // the nodes stand in both directions, so that no order of the nodes helps a route along
        MeshParents x = Check.withMesh("M0rrg4rrk21002k10002k23002k34002");
        Check.due("round(1)", x.round(1), 3);
        Check.due("about(7)", x.about(7), 0b01110);
        routeIs(x, 0, Check.NONE, Check.NONE, Check.NONE);
        Check.due("round(1)", x.round(1), 5);
        routeIs(x, 0, 1, 8, 0);
        routeIs(x, 4, 3, 8, 0);
        x.offset(2, 1);
        x.round(1);
        routeIs(x, 1, 2, 3, 0);
        routeIs(x, 0, 1, 8, 0);
        x.round(1);
        routeIs(x, 0, 1, 5, 0);
    }

    private static void parentIsKept() {
        Check.test("promise 11, steps 1 and 2: keeping and changing the parent");
        MeshParents x = Check.withMesh("M2g0g0rk02001k12002");
        x.round(1);
        routeIs(x, 2, 0, 1, 0);
        x.lose(0, false, 7);
        x.round(1);
        // 4 is not greater than 2 + 2
        routeIs(x, 2, 0, 4, 0);
        boundIs(x, 2, 0, 1);
        x.margin(1);
        x.round(1);
        routeIs(x, 2, 1, 2, 0);
        boundIs(x, 2, 0, 1);
        x.lose(0, false, 0);
        x.round(1);
        // 2 is not greater than 1 + 1
        routeIs(x, 2, 1, 2, 0);
        x.margin(0);
        x.round(1);
        routeIs(x, 2, 0, 1, 0);

        MeshParents tie = Check.withMesh("M0g1g1g0rk23004k13003k03003");
        tie.round(1);
        routeIs(tie, 3, 0, 4, 0);
        tie.offset(1, 0);
        tie.round(1);
        routeIs(tie, 3, 1, 3, 0);
        tie.offset(0, 0);
        tie.round(1);
        // the same price is no reason to change back
        routeIs(tie, 3, 1, 3, 0);
    }

    private static void parentIsLeft() {
        Check.test("promise 11, steps 1 and 2: losing the parent");
        MeshParents x = Check.withMesh("M9g0g0rk02001k12009");
        x.round(1);
        x.turn(0);
        x.round(1);
        // without a parent the margin does not count, and it has the new one in the same round
        routeIs(x, 2, 1, 9, 0);
        boundIs(x, 2, 0, 1);
        x.turn(1);
        x.round(1);
        routeIs(x, 2, Check.NONE, Check.NONE, Check.NONE);
        boundIs(x, 2, 0, 1);
        Check.due("nobody to ask", x.about(5), 0);
        x.offset(1, 1);
        x.turn(1);
        x.round(1);
        // 1 is not less than 1: it asks
        routeIs(x, 2, Check.NONE, Check.NONE, Check.NONE);
        Check.due("about(5)", x.about(5), 1);
        x.round(1);
        routeIs(x, 2, 1, 10, 1);
        boundIs(x, 2, 1, 10);

        MeshParents best = Check.withMesh("M0g0g5rk02009k12001");
        best.round(1);
        routeIs(best, 2, 1, 6, 0);
        best.offset(1, 6);
        best.round(1);
        // the parent's offer is not feasible any more, the other gateway's is
        routeIs(best, 2, 0, 9, 0);
        boundIs(best, 2, 0, 6);
    }

    private static void bounds() {
        Check.test("promise 11, step 3");
        MeshParents x = Check.withMesh("M0g0rrk01001k02005");
        x.round(1);
        boundIs(x, 1, 0, 1);
        boundIs(x, 2, 0, 5);
        x.offset(0, 3);
        x.round(1);
        routeIs(x, 1, Check.NONE, Check.NONE, Check.NONE);
        boundIs(x, 1, 0, 1);
        // a greater cost does not loosen the bound of the same sequence number
        routeIs(x, 2, 0, 8, 0);
        boundIs(x, 2, 0, 5);
        x.round(1);
        // that of a greater one does
        routeIs(x, 1, 0, 4, 1);
        boundIs(x, 1, 1, 4);
        routeIs(x, 2, 0, 8, 1);
        boundIs(x, 2, 1, 8);
        x.offset(0, 1);
        x.round(1);
        boundIs(x, 1, 1, 2);
        boundIs(x, 2, 1, 6);
    }

    private static void asking() {
        Check.test("promise 11, step 4");
        MeshParents x = Check.withMesh("M0g0rrrk01001k02001k03001");
        x.round(1);
        Check.due("about(5)", x.about(5), 0);
        x.offset(0, 5);
        x.round(1);
        Check.due("three ask, the number grows by 1", x.about(5), 1);
        x.round(1);
        Check.due("about(7)", x.about(7), 15);
        Check.due("about(5)", x.about(5), 1);
        x.turn(0);
        x.turn(1);
        x.turn(2);
        x.round(3);
        Check.due("nobody hears an offer, nobody asks", x.about(5), 1);
        Check.due("about(7)", x.about(7), 1);
        MeshParents behind = Check.withMesh("M0g0rrk01001k12001");
        behind.round(2);
        behind.offset(0, 7);
        behind.round(1);
        Check.due("one asks", behind.about(5), 1);
        // router 1 had no offer for router 2, so this does not ask
        Check.due("round(1)", behind.round(1), 2);
        Check.due("about(5)", behind.about(5), 1);
        Check.due("round(1)", behind.round(1), 3);
        MeshParents leaf = Check.withMesh("M0g0l10k01001");
        leaf.round(1);
        leaf.offset(0, 1);
        leaf.round(1);
        Check.due("a leaf asks too", leaf.about(5), 1);
    }

    private static void sleeping() {
        Check.test("promise 11, leaves");
        MeshParents x = Check.withMesh("M0g0l31k01001");
        Check.due("round(1)", x.round(1), 1);
        Check.due("round(1)", x.round(1), 2);
        x.turn(0);
        Check.due("round(2)", x.round(2), 2);
        routeIs(x, 1, 0, 1, 0);
        Check.due("round(1)", x.round(1), 1);
        x.turn(0);
        x.offset(0, 4);
        x.round(2);
        Check.due("asleep it does not ask", x.about(5), 0);
        x.round(1);
        Check.due("awake it does", x.about(5), 1);
        Check.due("round(2)", x.round(2), 1);
        Check.due("round(1)", x.round(1), 2);
        MeshParents y = Check.withMesh("M0rg0l42l10k12001k02001k13002");
        // a leaf offers nothing, so the router behind it stays alone
        y.round(9);
        Check.due("about(7)", y.about(7), 0b1110);
        Check.due("about(5)", y.about(5), 0);
    }

    private static void turn() {
        Check.test("promise 12");
        MeshParents x = Check.withMesh("M0g0rrk01001k12001");
        Check.due("turn(1)", x.turn(1), 1);
        Check.due("about(8)", x.about(8), 2);
        Check.due("turn(0)", x.turn(0), 1);
        Check.due("about(8)", x.about(8), 3);
        Check.due("turn(1)", x.turn(1), 0);
        Check.due("about(8)", x.about(8), 1);
        Check.due("about(9)", x.about(9), 3);
        Check.due("round(5)", x.round(5), 1);
        x.turn(0);
        Check.due("round(5)", x.round(5), 3);
        x.turn(0);
        Check.due("the parent stays until a round", x.about(7), 7);
        Check.refused("turn(2)", x, o -> o.turn(2), Check.UNKNOWN);
        Check.refused("turn(-1)", x, o -> o.turn(-1), Check.UNKNOWN);
        Check.refused("turn(9)", x, o -> o.turn(9), Check.UNKNOWN);
        Check.refused("turn(MAX)", x, o -> o.turn(Integer.MAX_VALUE), Check.UNKNOWN);
    }

    private static void lose() {
        Check.test("promise 13");
        MeshParents x = Check.withMesh("M0g0rrk01123k12001");
        Check.due("lose(0, false, 9)", x.lose(0, false, 9), 38);
        Check.due("link(0, 2)", x.link(0, 2), 9);
        Check.due("link(0, 3)", x.link(0, 3), 2);
        Check.due("lose(0, true, 9)", x.lose(0, true, 9), 300);
        Check.due("link(0, 3)", x.link(0, 3), 9);
        Check.due("lose(0, false, 0)", x.lose(0, false, 0), 30);
        Check.due("link(0, 2)", x.link(0, 2), 0);
        Check.due("link(0, 5)", x.link(0, 5), 30);
        Check.due("the other link", x.link(1, 5), 1);
        Check.due("no difference", x.lose(0, false, 0), 30);
        Check.due("is a change all the same", x.about(9), 4);
        x.round(1);
        Check.due("node(1, 4)", x.node(1, 4), 30);
        Check.due("lose(0, true, 0)", x.lose(0, true, 0), 3);
        Check.due("the cost stays until a round", x.node(1, 4), 30);
        x.turn(1);
        Check.due("a link that is down", x.lose(1, true, 5), 2);
        Check.refused("lose(0, false, 10)", x, o -> o.lose(0, false, 10), Check.BAD);
        Check.refused("lose(0, true, -1)", x, o -> o.lose(0, true, -1), Check.BAD);
        Check.refused("lose(2, true, 1)", x, o -> o.lose(2, true, 1), Check.UNKNOWN);
        Check.refused("lose(-1, true, 1)", x, o -> o.lose(-1, true, 1), Check.UNKNOWN);
        Check.refused("lose(2, true, 10)", x, o -> o.lose(2, true, 10), Check.UNKNOWN);
    }

    private static void offset() {
        Check.test("promise 14");
        MeshParents x = Check.withMesh("M0g3rl10g4k01001");
        Check.due("offset(0, 9)", x.offset(0, 9), 3);
        Check.due("offset(0, 0)", x.offset(0, 0), 9);
        Check.due("node(0, 1)", x.node(0, 1), 0);
        Check.due("offset(3, 4)", x.offset(3, 4), 4);
        Check.due("node(3, 1)", x.node(3, 1), 4);
        Check.due("about(9)", x.about(9), 3);
        Check.refused("offset(1, 0)", x, o -> o.offset(1, 0), Check.UNKNOWN);
        Check.refused("offset(2, 0)", x, o -> o.offset(2, 0), Check.UNKNOWN);
        Check.refused("offset(4, 0)", x, o -> o.offset(4, 0), Check.UNKNOWN);
        Check.refused("offset(-1, 0)", x, o -> o.offset(-1, 0), Check.UNKNOWN);
        Check.refused("offset(1, 10)", x, o -> o.offset(1, 10), Check.UNKNOWN);
        Check.refused("offset(0, 10)", x, o -> o.offset(0, 10), Check.BAD);
        Check.refused("offset(0, -1)", x, o -> o.offset(0, -1), Check.BAD);
    }

    private static void margin() {
        Check.test("promise 15");
        MeshParents x = Check.withMesh("M5");
        Check.due("margin(9)", x.margin(9), 5);
        Check.due("margin(0)", x.margin(0), 9);
        Check.due("margin(0)", x.margin(0), 0);
        Check.due("about(4)", x.about(4), 0);
        Check.due("about(9)", x.about(9), 3);
        Check.refused("margin(10)", x, o -> o.margin(10), Check.BAD);
        Check.refused("margin(-1)", x, o -> o.margin(-1), Check.BAD);
    }

    private static void undo() {
        Check.test("promise 16");
        MeshParents x = Check.withMesh("M0g0rk01001");
        Check.refused("undo()", x, o -> o.undo(), Check.LATE);
        x.round(3);
        x.turn(0);
        x.round(2);
        Check.due("about(7)", x.about(7), 1);
        Check.due("undo()", x.undo(), 2);
        Check.due("about(7)", x.about(7), 3);
        Check.due("about(6)", x.about(6), 3);
        Check.due("about(8)", x.about(8), 1);
        Check.due("undo()", x.undo(), 1);
        Check.due("about(8)", x.about(8), 0);
        x.margin(4);
        Check.due("undo()", x.undo(), 1);
        Check.due("about(4)", x.about(4), 0);
        Check.due("undo()", x.undo(), 0);
        Check.due("about(6)", x.about(6), 0);
        Check.due("node(1, 3)", x.node(1, 3), Check.NONE);
        Check.refused("undo()", x, o -> o.undo(), Check.LATE);
    }

    private static void undoEverything() {
        Check.test("promise 16, all that a change changes");
        MeshParents x = Check.withMesh("M1g0rrl20g5k01001k12002k23003");
        x.round(2);
        x.offset(0, 6);
        x.round(2);
        java.util.List<Long> before = Check.picture(x);
        Check.Call[] changes = {o -> o.round(5), o -> o.turn(1), o -> o.lose(0, true, 7), o -> o.lose(2, false, 7),
            o -> o.offset(4, 0), o -> o.margin(9)};
        for (int i = 0; i < changes.length; i++) {
            changes[i].on(x);
            Check.due("undo() of change " + i, x.undo(), 3);
            Check.holds("change " + i + " is not undone", Check.picture(x).equals(before));
        }
        for (Check.Call change : changes) {
            change.on(x);
        }
        for (int i = 0; i < changes.length; i++) {
            x.undo();
        }
        Check.holds("all of them are not undone", Check.picture(x).equals(before));
        // what is no change of the mesh stays as it is
        x.see(0, 0, 1);
        x.seed(4L);
        x.write('r');
        x.keep(0);
        x.undo();
        Check.due("about(10)", x.about(10), 1);
        Check.due("about(11)", x.about(11), 30);
        Check.due("seed(0)", x.seed(0L), 4);
        Check.due("again(0)", x.again(0), 4);
    }

    private static void fourteenChanges() {
        Check.test("promise 16, fourteen");
        MeshParents x = Check.withMesh("M0");
        for (int n = 1; n <= 40; n++) {
            x.round(n);
            Check.due("about(9)", x.about(9), Math.min(n, 14));
        }
        int rounds = 40 * 41 / 2;
        for (int n = 40; n > 26; n--) {
            rounds -= n;
            Check.due("undo()", x.undo(), n - 27);
            Check.due("about(6)", x.about(6), rounds);
        }
        Check.refused("undo()", x, o -> o.undo(), Check.LATE);
        Check.due("the oldest are lost", x.about(6), 26 * 27 / 2);
        x.margin(3);
        Check.due("undo()", x.undo(), 0);
        MeshParents y = Check.withMesh("M0");
        for (int n = 0; n < 15; n++) {
            y.round(1);
        }
        y.undo();
        y.undo();
        y.round(50);
        Check.due("about(9)", y.about(9), 13);
        y.undo();
        Check.due("about(6)", y.about(6), 13);
    }
}
