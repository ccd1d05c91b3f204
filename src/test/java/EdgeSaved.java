/** The promises 29 and 30, sentence by sentence. */
final class EdgeSaved {
    private EdgeSaved() {
    }

    static void run() {
        keepSaves();
        keepReplaces();
        keepSlots();
        keepAnswers();
        againRestores();
        againStays();
        againKeepsNoChange();
        againSlots();
        againAnswers();
    }

    private static void keepSaves() {
        Edge.says("Promise 29", "Saves the parents, costs, sequence numbers, bounds, the number of rounds, losses, links"
            + " that are down, offsets and the margin.");
        Check.Call[] changes = {x -> x.round(1), x -> x.round(30), x -> x.turn(0), x -> x.turn(1),
            x -> x.lose(0, false, 9), x -> x.lose(1, true, 9), x -> x.offset(0, 0), x -> x.margin(9), x -> x.mesh()};
        for (int i = 0; i < changes.length - 1; i++) {
            Check.Call change = changes[i];
            Edge.same(EdgeSaved::kept, "change " + i + ", rounds, and again(0)", x -> {
                change.on(x);
                x.round(5);
                return x.again(0);
            }, 5);
        }
        MeshParents x = kept();
        EdgeRoutes.noRoute(x, 1);
        EdgeRoutes.boundIs(x, 1, 0, 5);
        EdgeRoutes.routeIs(x, 2, 1, 10, 0);
        EdgeRoutes.boundIs(x, 2, 0, 8);
        Check.due("the sequence number", x.about(5), 1);
    }

    /** A router that has lost its route and asked, and a leaf that does not know of it; saved in slot 0, without changes. */
    private static MeshParents kept() {
        MeshParents x = Check.withMesh("M1g2rl20k01102k12003");
        x.round(3);
        x.lose(1, false, 4);
        x.round(1);
        x.offset(0, 5);
        x.margin(6);
        x.turn(1);
        x.turn(1);
        x.round(1);
        x.lose(0, true, 7);
        x.keep(0);
        x.again(0);
        return x;
    }

    private static void keepReplaces() {
        Edge.says("Promise 29", "What was saved in this slot before is lost.");
        MeshParents x = new MeshParents();
        x.round(1);
        x.keep(0);
        x.keep(1);
        x.round(1);
        x.keep(0);
        x.round(1);
        Check.due("again(0)", x.again(0), 2);
        Check.due("again(1)", x.again(1), 1);
        x.keep(0);
        Check.due("again(0)", x.again(0), 1);
    }

    private static void keepSlots() {
        Edge.says("Promise 29", "`slot`: the slot, 0 or 1");
        MeshParents x = new MeshParents();
        Check.due("keep(0)", x.keep(0), 0);
        x.round(9);
        Check.due("keep(1)", x.keep(1), 9);
        Check.due("again(0)", x.again(0), 0);
        Check.due("again(1)", x.again(1), 9);
        for (int slot : new int[] {-1, 2, 3, 256, Edge.MIN, Edge.MAX}) {
            Edge.same("keep(" + slot + ")", o -> o.keep(slot), Check.UNKNOWN);
            Edge.same(MeshParents::new, "keep(" + slot + ")", o -> o.keep(slot), Check.UNKNOWN);
        }
    }

    private static void keepAnswers() {
        Edge.says("Promise 29", "Returns the number of rounds; UNKNOWN if there is no such slot.");
        MeshParents x = Check.withMesh("M0g0rk01001");
        Check.due("keep(1) at first", x.keep(1), 0);
        x.round(99);
        Check.due("keep(1) after 99", x.keep(1), 99);
        x.undo();
        Check.due("keep(1) after undo()", x.keep(1), 0);
        Check.due("it is no change", x.about(9), 0);
    }

    private static void againRestores() {
        Edge.says("Promise 30", "Restores what was saved.");
        // the text, the observations and the random number were not
        MeshParents x = kept();
        x.write('r');
        x.see(0, 0, 1);
        x.seed(4L);
        x.round(2);
        Check.due("again(0)", x.again(0), 5);
        Check.due("about(6)", x.about(6), 5);
        Check.due("about(10)", x.about(10), 1);
        Check.due("about(11)", x.about(11), 21);
        Check.due("seed(0)", x.seed(0L), 4);
        // nothing is saved of another mesh
        x.mesh();
        Check.due("again(0) after mesh()", x.again(0), Check.LATE);
    }

    private static void againStays() {
        Edge.says("Promise 30", "It stays saved.");
        MeshParents x = kept();
        for (int n = 0; n < 3; n++) {
            x.margin(n);
            x.offset(0, n);
            x.lose(0, false, n);
            x.round(20);
            Check.due("again(0)", x.again(0), 5);
            Check.due("about(4)", x.about(4), 6);
            Check.due("node(0, 1)", x.node(0, 1), 5);
            Check.due("link(0, 2)", x.link(0, 2), 1);
            EdgeRoutes.noRoute(x, 1);
            Check.due("the other slot", x.again(1), Check.LATE);
        }
    }

    private static void againKeepsNoChange() {
        Edge.says("Promise 30", "No change is kept then.");
        MeshParents x = new MeshParents();
        x.keep(1);
        for (int n = 0; n < 20; n++) {
            x.round(1);
        }
        Check.due("again(1)", x.again(1), 0);
        Check.due("about(9)", x.about(9), 0);
        Check.due("undo()", x.undo(), Check.LATE);
        Check.due("about(6)", x.about(6), 0);
        x.round(7);
        Check.due("about(9)", x.about(9), 1);
        Check.due("undo()", x.undo(), 0);
        Check.due("about(6)", x.about(6), 0);
        // one that is refused keeps them
        x.round(1);
        x.again(0);
        x.again(2);
        Check.due("about(9)", x.about(9), 1);
    }

    private static void againSlots() {
        Edge.says("Promise 30", "`slot`: the slot, 0 or 1");
        for (int slot : new int[] {-1, 2, 3, 256, Edge.MIN, Edge.MAX}) {
            Edge.same("again(" + slot + ")", x -> x.again(slot), Check.UNKNOWN);
            Edge.same(MeshParents::new, "again(" + slot + ")", x -> x.again(slot), Check.UNKNOWN);
        }
    }

    private static void againAnswers() {
        Edge.says("Promise 30", "Returns the number of rounds then; UNKNOWN if there is no such slot;"
            + " LATE if nothing is saved there.");
        Edge.same(MeshParents::new, "again(0)", x -> x.again(0), Check.LATE);
        Edge.same(MeshParents::new, "again(1)", x -> x.again(1), Check.LATE);
        Edge.same("again(0) when slot 1 is taken", x -> x.again(0), Check.LATE);
        MeshParents x = Check.withMesh("M0g0rk01001");
        x.keep(0);
        x.round(99);
        x.keep(1);
        Check.due("again(0)", x.again(0), 0);
        Check.due("again(1)", x.again(1), 99);
        x.mesh();
        Edge.same(() -> {
            MeshParents y = Check.withMesh("M0g0rk01001");
            y.keep(0);
            y.keep(1);
            y.mesh();
            return y;
        }, "again(1) after mesh()", o -> o.again(1), Check.LATE);
    }
}
