/** The paragraph CHANGES and the promises 11 to 16, sentence by sentence. */
final class EdgeChanges {
    private EdgeChanges() {
    }

    static void run() {
        eachIsAChange();
        fourteen();
        othersChangeNothing();
        howManyRounds();
        roundAnswers();
        turnTakes();
        turnAnswers();
        whichLoss();
        howMuchLoss();
        loseAnswers();
        whichOffset();
        offsetAnswers();
        whichMargin();
        marginAnswers();
        undoTakesBack();
        undoAnswers();
    }

    private static void eachIsAChange() {
        Edge.says("CHANGES", "Each successful call of round(), turn(), lose(), offset() and margin() is a change,"
            + " also if nothing becomes different.");
        MeshParents x = Check.withMesh("M4g3rk01201");
        Check.due("lose(0, false, 2)", x.lose(0, false, 2), 2);
        Check.due("about(9)", x.about(9), 1);
        Check.due("lose(0, true, 0)", x.lose(0, true, 0), 2);
        Check.due("about(9)", x.about(9), 2);
        Check.due("offset(0, 3)", x.offset(0, 3), 3);
        Check.due("about(9)", x.about(9), 3);
        Check.due("margin(4)", x.margin(4), 4);
        Check.due("about(9)", x.about(9), 4);
        x.turn(0);
        Check.due("about(9)", x.about(9), 5);
        x.turn(0);
        Check.due("about(9)", x.about(9), 6);
        x.round(1);
        Check.due("about(9)", x.about(9), 7);
        x.round(99);
        Check.due("many rounds are one change", x.about(9), 8);
        for (int left = 7; left >= 0; left--) {
            Check.due("undo()", x.undo(), left);
        }
        MeshParents empty = new MeshParents();
        empty.round(1);
        empty.margin(0);
        Check.due("about(9) without a mesh", empty.about(9), 2);
        // a call that was refused is none
        Edge.same(MeshParents::new, "refused calls", o -> o.round(0) + o.turn(0) + o.lose(0, true, 0) + o.offset(0, 0)
            + o.margin(10), -7);
    }

    private static void fourteen() {
        Edge.says("CHANGES", "The latest 14 changes are kept and can be undone one by one.");
        for (int changes : new int[] {1, 13, 14, 15, 16, 28, 29, 100, 400}) {
            MeshParents x = new MeshParents();
            for (int n = 1; n <= changes; n++) {
                x.round(1 + n % 9);
                Check.due("about(9)", x.about(9), Math.min(n, 14));
            }
            int rounds = x.about(6);
            int kept = Math.min(changes, 14);
            for (int n = 0; n < kept; n++) {
                rounds -= 1 + (changes - n) % 9;
                Check.due("undo() of " + changes, x.undo(), kept - n - 1);
                Check.due("about(6)", x.about(6), rounds);
            }
            Check.due("undo() once more", x.undo(), Check.LATE);
            Check.due("about(6)", x.about(6), rounds);
        }
        // undone changes make room for others
        MeshParents x = new MeshParents();
        for (int n = 0; n < 20; n++) {
            x.margin(n % 10);
        }
        for (int n = 0; n < 5; n++) {
            x.undo();
        }
        Check.due("about(4)", x.about(4), 4);
        for (int n = 0; n < 5; n++) {
            x.round(1);
        }
        Check.due("about(9)", x.about(9), 14);
        x.round(1);
        Check.due("about(9)", x.about(9), 14);
        for (int left = 13; left >= 0; left--) {
            Check.due("undo()", x.undo(), left);
        }
        Check.due("the margin before the oldest that is kept", x.about(4), 6);
    }

    private static void othersChangeNothing() {
        Edge.says("CHANGES", "All other computations change nothing, if nothing else is told.");
        Edge.same("fault()", x -> x.fault(), Check.NONE);
        Edge.same("about(7)", x -> x.about(7), 0b111);
        Edge.same("node(1, 8)", x -> x.node(1, 8), 0);
        Edge.same("link(0, 5)", x -> x.link(0, 5), 3);
        Edge.same("price(0, 1)", x -> x.price(0, 1), 8);
        Edge.same("safe(0, 1)", x -> x.safe(0, 1), 0);
        Edge.same("ahead(99, 2, 3)", x -> x.ahead(99, 2, 3), Check.NONE);
        Edge.same("still()", x -> x.still(), 2);
        Edge.same("word(1)", x -> x.word(1), 2);
        Edge.same("even(0)", x -> x.even(0), 0);
        Edge.same("judge(3, 110002000030900)", x -> x.judge(3, 110002000030900L), Check.NONE);
        Edge.same("which()", x -> x.which(), 0);
        Edge.same("share(0, true)", x -> x.share(0, true), 2);
        Edge.same("chance(5, false)", x -> x.chance(5, false), 1);
    }

    private static void howManyRounds() {
        Edge.says("Promise 11", "`n`: the number of rounds, 1 to 99");
        MeshParents x = Check.withMesh(EdgeRoutes.LONGEST);
        Check.due("round(1)", x.round(1), 2);
        Check.due("about(6)", x.about(6), 1);
        Check.due("round(2)", x.round(2), 4);
        Check.due("about(6)", x.about(6), 3);
        Check.due("round(99)", x.round(99), 8);
        Check.due("about(6)", x.about(6), 102);
        Check.due("about(9)", x.about(9), 3);
        for (int n : new int[] {0, -1, 100, 256, Edge.MIN, Edge.MAX}) {
            Edge.same("round(" + n + ")", o -> o.round(n), Check.BAD);
        }
    }

    private static void roundAnswers() {
        Edge.says("Promise 11", "Returns how many nodes are reached then; BAD if n is out of range.");
        Check.due("round(1) without nodes", new MeshParents().round(1), 0);
        Check.due("round(1) of eight routers", Check.withMesh("M0" + Edge.ROUTERS + Edge.NINE).round(1), 0);
        Check.due("round(1) of eight gateways", Check.withMesh("M0" + Edge.GATEWAYS).round(1), 8);
        Check.due("round(2) of a gateway and seven leaves",
            Check.withMesh("M0g0l10l10l10l10l10l10l10" + Edge.NINE).round(2), 8);
        Edge.same(MeshParents::new, "round(0)", x -> x.round(0), Check.BAD);
        Edge.same(MeshParents::new, "round(100)", x -> x.round(100), Check.BAD);
    }

    private static void turnTakes() {
        Edge.says("Promise 12", "Takes a link down if it is up, and up if it is down.");
        MeshParents x = Check.withMesh("M0" + Edge.ROUTERS + Edge.NINE);
        for (int link = 0; link < 9; link++) {
            x.turn(link);
            Check.due("about(8)", x.about(8), 1 << link);
            x.turn(link);
            Check.due("about(8)", x.about(8), 0);
        }
    }

    private static void turnAnswers() {
        Edge.says("Promise 12", "Returns 1 if it is down then, else 0; UNKNOWN if there is no such link.");
        MeshParents x = Check.withMesh("M0" + Edge.ROUTERS + Edge.NINE);
        for (int link : new int[] {0, 8}) {
            Check.due("turn(" + link + ")", x.turn(link), 1);
            Check.due("turn(" + link + ")", x.turn(link), 0);
            Check.due("turn(" + link + ")", x.turn(link), 1);
        }
        Check.due("turn(9) of nine", x.turn(9), Check.UNKNOWN);
        for (int link : new int[] {-1, 2, 8, 9, 32, Edge.MIN, Edge.MAX}) {
            Edge.same("turn(" + link + ")", o -> o.turn(link), Check.UNKNOWN);
        }
        Edge.same(MeshParents::new, "turn(0)", o -> o.turn(0), Check.UNKNOWN);
    }

    private static void whichLoss() {
        Edge.says("Promise 13", "`back`: false for the loss from its first node; true for the loss back");
        MeshParents x = Check.withMesh("M0rrk10341");
        x.lose(0, false, 5);
        Check.due("link(0, 2)", x.link(0, 2), 5);
        Check.due("link(0, 3)", x.link(0, 3), 4);
        x.lose(0, true, 6);
        Check.due("link(0, 2)", x.link(0, 2), 5);
        Check.due("link(0, 3)", x.link(0, 3), 6);
    }

    private static void howMuchLoss() {
        Edge.says("Promise 13", "`v`: the loss, 0 to 9");
        for (int v : new int[] {-1, 10, 256, Edge.MIN, Edge.MAX}) {
            Edge.same("lose(0, false, " + v + ")", x -> x.lose(0, false, v), Check.BAD);
            Edge.same("lose(1, true, " + v + ")", x -> x.lose(1, true, v), Check.BAD);
        }
        MeshParents x = Check.withMesh("M0rrk01551");
        for (int v = 0; v <= 9; v++) {
            x.lose(0, false, v);
            x.lose(0, true, 9 - v);
            Check.due("link(0, 2)", x.link(0, 2), v);
            Check.due("link(0, 3)", x.link(0, 3), 9 - v);
        }
    }

    private static void loseAnswers() {
        Edge.says("Promise 13",
            "Returns the airtime of the link then; UNKNOWN if there is no such link; BAD if v is out of range.");
        MeshParents x = Check.withMesh("M0" + Edge.ROUTERS + Edge.NINE.substring(0, 48) + "k34009");
        Check.due("lose(8, false, 9)", x.lose(8, false, 9), 90);
        Check.due("lose(8, true, 9)", x.lose(8, true, 9), 900);
        Check.due("lose(8, false, 0)", x.lose(8, false, 0), 90);
        Check.due("lose(8, true, 0)", x.lose(8, true, 0), 9);
        Check.due("lose(0, true, 1)", x.lose(0, true, 1), 2);
        Check.due("link(0, 5)", x.link(0, 5), 2);
        x.turn(0);
        Check.due("lose(0, true, 9) of a link that is down", x.lose(0, true, 9), 10);
        for (int link : new int[] {-1, 2, 8, 9, Edge.MIN, Edge.MAX}) {
            Edge.same("lose(" + link + ", true, 0)", o -> o.lose(link, true, 0), Check.UNKNOWN);
            Edge.same("lose(" + link + ", true, 10)", o -> o.lose(link, true, 10), Check.UNKNOWN);
        }
    }

    private static void whichOffset() {
        Edge.says("Promise 14", "`v`: the offset, 0 to 9");
        MeshParents x = Check.withMesh("M0g5rk01001");
        for (int v = 0; v <= 9; v++) {
            x.offset(0, v);
            Check.due("node(0, 1)", x.node(0, 1), v);
            Check.due("price(0, 1)", x.price(0, 1), v + 1);
        }
        for (int v : new int[] {-1, 10, 256, Edge.MIN, Edge.MAX}) {
            Edge.same("offset(0, " + v + ")", o -> o.offset(0, v), Check.BAD);
        }
    }

    private static void offsetAnswers() {
        Edge.says("Promise 14", "Returns the previous offset; UNKNOWN if there is no such node or it is not a gateway;"
            + " BAD if v is out of range.");
        MeshParents x = Check.withMesh("M0g0g1g2g3g4g5g6g9");
        Check.due("offset(0, 9)", x.offset(0, 9), 0);
        Check.due("offset(0, 0)", x.offset(0, 0), 9);
        Check.due("offset(0, 0)", x.offset(0, 0), 0);
        Check.due("offset(7, 0)", x.offset(7, 0), 9);
        Check.due("offset(8, 0)", x.offset(8, 0), Check.UNKNOWN);
        for (int gateway : new int[] {-1, 1, 2, 3, 8, Edge.MIN, Edge.MAX}) {
            Edge.same("offset(" + gateway + ", 0)", o -> o.offset(gateway, 0), Check.UNKNOWN);
            Edge.same("offset(" + gateway + ", 10)", o -> o.offset(gateway, 10), Check.UNKNOWN);
        }
    }

    private static void whichMargin() {
        Edge.says("Promise 15", "`v`: the margin, 0 to 9");
        MeshParents x = new MeshParents();
        for (int v = 0; v <= 9; v++) {
            Check.due("margin(" + v + ")", x.margin(v), Math.max(0, v - 1));
            Check.due("about(4)", x.about(4), v);
        }
        for (int v : new int[] {-1, 10, 256, Edge.MIN, Edge.MAX}) {
            Edge.same("margin(" + v + ")", o -> o.margin(v), Check.BAD);
        }
    }

    private static void marginAnswers() {
        Edge.says("Promise 15", "Returns the previous margin; BAD if v is out of range.");
        MeshParents x = Check.withMesh("M7");
        Check.due("margin(9)", x.margin(9), 7);
        Check.due("margin(0)", x.margin(0), 9);
        Check.due("margin(0)", x.margin(0), 0);
        Check.due("margin(10)", x.margin(10), Check.BAD);
        Check.due("margin(1)", x.margin(1), 0);
    }

    private static void undoTakesBack() {
        Edge.says("Promise 16", "Undoes the latest change that is kept.");
        Check.Call[] changes = {x -> x.round(1), x -> x.round(99), x -> x.turn(0), x -> x.turn(1),
            x -> x.lose(0, false, 9), x -> x.lose(0, true, 9), x -> x.lose(1, true, 0), x -> x.offset(0, 0),
            x -> x.margin(9)};
        for (int i = 0; i < changes.length; i++) {
            Check.Call change = changes[i];
            Edge.same("undo() of change " + i, x -> {
                change.on(x);
                return x.undo();
            }, 3);
            Edge.same("undo() of rounds and change " + i, x -> {
                x.round(7);
                change.on(x);
                x.undo();
                return x.undo();
            }, 3);
        }
        // what is no change is not undone
        MeshParents x = Check.withMesh("M0");
        x.margin(1);
        x.seed(5L);
        x.keep(1);
        x.write('r');
        Check.due("undo()", x.undo(), 0);
        Check.due("about(11)", x.about(11), 3);
        Check.due("seed(0)", x.seed(0L), 5);
        Check.due("again(1)", x.again(1), 0);
        Check.due("about(4)", x.about(4), 1);
    }

    private static void undoAnswers() {
        Edge.says("Promise 16", "Returns how many changes are kept then; LATE if there is none.");
        Edge.same(MeshParents::new, "undo()", x -> x.undo(), Check.LATE);
        Edge.same(Edge.mesh("M0g0rk01001"), "undo()", x -> x.undo(), Check.LATE);
        MeshParents x = Check.withMesh("M0g0rk01001");
        x.round(1);
        x.turn(0);
        Check.due("undo()", x.undo(), 1);
        Check.due("undo()", x.undo(), 0);
        Check.due("undo()", x.undo(), Check.LATE);
        x.round(1);
        x.mesh();
        Check.due("undo() after mesh()", x.undo(), Check.LATE);
        x.round(1);
        x.keep(0);
        x.again(0);
        Check.due("undo() after again()", x.undo(), Check.LATE);
    }
}
