/** The paragraph OBSERVATIONS and the promises 22 to 24, sentence by sentence. */
final class EdgeObservations {
    private EdgeObservations() {
    }

    static void run() {
        six();
        whatAnObservationSays();
        thatIsUp();
        now();
        theyStay();
        roundsOfSee();
        reachedOrNot();
        seeAnswers();
        unseeAnswers();
        whichAnswers();
    }

    private static void six() {
        Edge.says("OBSERVATIONS", "There are up to six observations.");
        MeshParents x = Check.withMesh("M0g0rk01001");
        for (int n = 1; n <= 6; n++) {
            Check.due("see " + n, x.see(1, n, 0), n);
        }
        Check.due("see 7", x.see(1, 7, 0), Check.FULL);
        Check.due("about(10)", x.about(10), 6);
        Check.due("which()", x.which(), 1);
        // the last of six counts like the first
        for (int wrong = 0; wrong < 6; wrong++) {
            MeshParents y = Check.withMesh("M0g0rk01001");
            for (int n = 0; n < 6; n++) {
                y.see(0, n, n == wrong ? 0 : 1);
            }
            Check.due("which() with observation " + wrong + " false", y.which(), 0);
        }
        // one that was refused is none of them
        MeshParents z = Check.withMesh("M0g0rk01001");
        for (int n = 1; n <= 6; n++) {
            z.see(0, n, 1);
        }
        z.see(0, 0, 0);
        Check.due("which()", z.which(), 1);
    }

    private static void whatAnObservationSays() {
        Edge.says("OBSERVATIONS", "An observation says that after n rounds, 0 to 20, a node is reached, or not, if one"
            + " unknown link that is up goes down now;");
        MeshParents x = Check.withMesh("M0g0rrk01001k12001");
        x.round(2);
        // after 0 rounds nobody has noticed yet, after 1 router 1 has, if it is its link
        x.see(1, 0, 1);
        x.see(2, 0, 1);
        Check.due("which() after 0 rounds", x.which(), 0b11);
        x.see(1, 1, 0);
        Check.due("which() after 1", x.which(), 0b01);
        x.unsee();
        x.see(1, 20, 1);
        Check.due("which() after 20", x.which(), 0b10);
        x.see(2, 20, 1);
        Check.due("which() of neither", x.which(), 0);
        // the leaf is lost after 11 to 19 rounds (phase 1) or 12 to 20 (phase 2) if link 4 goes, which it does not need
        MeshParents one = EdgePredictions.late(1, 5);
        one.see(4, 20, 1);
        Check.due("which() of phase 1", one.which(), 0b10000);
        one.see(4, 19, 0);
        Check.due("which() of phase 1 a round before", one.which(), 0b10000);
        MeshParents two = EdgePredictions.late(2, 5);
        two.see(4, 20, 1);
        Check.due("which() of phase 2", two.which(), 0);
    }

    private static void thatIsUp() {
        Edge.says("OBSERVATIONS", "one unknown link that is up");
        MeshParents x = Check.withMesh("M0" + Edge.ROUTERS + Edge.NINE);
        for (int link = 0; link < 9; link++) {
            x.turn(link);
            Check.due("which() without link " + link, x.which(), 511 - (1 << link));
            x.turn(link);
        }
    }

    private static void now() {
        Edge.says("OBSERVATIONS", "\"now\" is the moment at which which() is called.");
        MeshParents x = Check.withMesh("M0g0l30k01001");
        x.see(1, 2, 1);
        Check.due("which() before the leaf has a route", x.which(), 0);
        x.round(1);
        // it is awake in round 3 next, the third from now
        Check.due("which() after a round", x.which(), 1);
        x.round(1);
        Check.due("which() after two", x.which(), 0);
        x.undo();
        Check.due("which() after undo()", x.which(), 1);
    }

    private static void theyStay() {
        Edge.says("OBSERVATIONS", "They stay when another mesh is read; a node that does not exist is not reached.");
        MeshParents x = Check.withMesh("M0" + Edge.GATEWAYS + "k01001");
        x.see(7, 0, 1);
        x.see(1, 20, 1);
        Check.due("which() of eight gateways", x.which(), 1);
        x.wipe();
        Check.writeAll(x, "M0g0g0k01001");
        x.mesh();
        Check.due("about(10)", x.about(10), 2);
        Check.due("which() without node 7", x.which(), 0);
        x.unsee();
        x.see(1, 0, 1);
        Check.due("which()", x.which(), 1);
        Check.due("see(2, 0, 0)", x.see(2, 0, 0), Check.UNKNOWN);
        MeshParents y = Check.withMesh("M0" + Edge.GATEWAYS + "k01001");
        y.see(2, 0, 0);
        y.see(7, 20, 0);
        Check.due("which() of gateways that are not reached", y.which(), 0);
        y.wipe();
        Check.writeAll(y, "M0g0g0k01001");
        y.mesh();
        Check.due("which() without nodes 2 and 7", y.which(), 1);
        y.wipe();
        Check.writeAll(y, "M0" + Edge.GATEWAYS + "k01001");
        y.mesh();
        Check.due("which() with them again", y.which(), 0);
        y.wipe();
        Check.writeAll(y, "M0");
        y.mesh();
        Check.due("about(10) without a mesh", y.about(10), 2);
        Check.due("which() without a mesh", y.which(), 0);
    }

    private static void roundsOfSee() {
        Edge.says("Promise 22", "`n`: after how many rounds, 0 to 20");
        Edge.same(Edge.mesh("M0g0"), "see(0, 0, 1) and unsee()", x -> x.see(0, 0, 1) + 10 * x.unsee(), 11);
        Edge.same(Edge.mesh("M0g0"), "see(0, 20, 1) and unsee()", x -> x.see(0, 20, 1) + 10 * x.unsee(), 11);
        for (int n : new int[] {-1, 21, 256, Edge.MIN, Edge.MAX}) {
            Edge.same("see(0, " + n + ", 1)", x -> x.see(0, n, 1), Check.BAD);
        }
    }

    private static void reachedOrNot() {
        Edge.says("Promise 22", "`is`: 1 if it is reached; 0 if not");
        MeshParents x = Check.withMesh("M0g0rk01001");
        x.see(0, 0, 1);
        x.see(1, 0, 0);
        Check.due("which()", x.which(), 1);
        x.see(1, 1, 1);
        Check.due("which()", x.which(), 0);
        for (int is : new int[] {-1, 2, 256, Edge.MIN, Edge.MAX}) {
            Edge.same("see(0, 0, " + is + ")", o -> o.see(0, 0, is), Check.BAD);
        }
    }

    private static void seeAnswers() {
        Edge.says("Promise 22", "Returns how many observations there are then; UNKNOWN if there is no such node;"
            + " BAD if n or is is out of range; FULL if there are six observations.");
        MeshParents x = Check.withMesh("M0" + Edge.GATEWAYS);
        for (int n = 1; n <= 6; n++) {
            Check.due("the same once more", x.see(7, 20, 1), n);
        }
        Check.due("see(7, 20, 1)", x.see(7, 20, 1), Check.FULL);
        Check.due("see(8, 20, 1)", x.see(8, 20, 1), Check.UNKNOWN);
        Check.due("see(7, 21, 1)", x.see(7, 21, 1), Check.BAD);
        Check.due("see(7, 20, 2)", x.see(7, 20, 2), Check.BAD);
        x.unsee();
        Check.due("see(0, 0, 0)", x.see(0, 0, 0), 1);
        for (int node : new int[] {-1, 3, 7, 8, Edge.MIN, Edge.MAX}) {
            Edge.same("see(" + node + ", 0, 0)", o -> o.see(node, 0, 0), Check.UNKNOWN);
        }
        Edge.same(MeshParents::new, "see(0, 0, 0)", o -> o.see(0, 0, 0), Check.UNKNOWN);
        Edge.same(Edge::withSixObservations, "see(1, 20, 0)", o -> o.see(1, 20, 0), Check.FULL);
    }

    private static void unseeAnswers() {
        Edge.says("Promise 23", "Removes all observations.");
        MeshParents x = Check.withMesh("M0g0rk01001");
        x.see(0, 0, 0);
        Check.due("which()", x.which(), 0);
        x.unsee();
        Check.due("about(10)", x.about(10), 0);
        Check.due("which()", x.which(), 1);
        Edge.says("Promise 23", "Returns how many there were.");
        Check.due("unsee() of none", x.unsee(), 0);
        for (int n = 1; n <= 6; n++) {
            x.see(0, 20, 0);
        }
        Check.due("unsee() of six", x.unsee(), 6);
        Check.due("unsee() once more", x.unsee(), 0);
        x.see(0, 20, 0);
        Check.due("unsee() of one", x.unsee(), 1);
        Check.due("it is no change", x.about(9), 0);
    }

    private static void whichAnswers() {
        Edge.says("Promise 24", "Returns the links that are up with which, if they (each one alone) went down now,"
            + " all observations would be true.");
        MeshParents x = Check.withMesh("M0g0rrk01001k02001");
        x.round(1);
        // each link alone: there is none with which both would be lost
        x.see(1, 20, 0);
        Check.due("which()", x.which(), 0b01);
        x.see(2, 20, 0);
        Check.due("which() of both", x.which(), 0);
        x.unsee();
        x.see(0, 0, 1);
        x.see(0, 20, 1);
        Check.due("which() of either", x.which(), 0b11);
        x.turn(0);
        Check.due("which() of the other", x.which(), 0b10);
        x.turn(1);
        Check.due("which() when none is up", x.which(), 0);
        Edge.same(MeshParents::new, "which()", o -> o.which(), 0);
        Edge.same(Edge.mesh("M0" + Edge.ROUTERS), "which()", o -> o.which(), 0);
        Edge.same(Edge.mesh("M0" + Edge.LEAVES + Edge.NINE), "which()", o -> o.which(), 511);
    }
}
