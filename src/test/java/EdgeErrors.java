/** The face of the class and the paragraph ERRORS, sentence by sentence. */
final class EdgeErrors {
    private EdgeErrors() {
    }

    static void run() {
        constants();
        lastCalls();
        negativeValues();
        unknown();
        bad();
        late();
        full();
        order();
        errorsChangeNothing();
        noneIsNoError();
        numberedFromZero();
        sets();
        fractions();
    }

    private static void constants() {
        Edge.says("The public face",
            "public static final int UNKNOWN = -1, BAD = -2, LATE = -3, FULL = -4, NONE = -9;");
        Check.due("UNKNOWN", MeshParents.UNKNOWN, -1);
        Check.due("BAD", MeshParents.BAD, -2);
        Check.due("LATE", MeshParents.LATE, -3);
        Check.due("FULL", MeshParents.FULL, -4);
        Check.due("NONE", MeshParents.NONE, -9);
    }

    private static void lastCalls() {
        Edge.says("What it is", "An object is used for at most 512 calls after it has been made");
        MeshParents x = new MeshParents();
        for (int call = 1; call < 512; call++) {
            x.round(99);
        }
        Check.due("about(6) as the 512th call", x.about(6), 511 * 99);
        MeshParents y = Check.withMesh("M0g0rk01001");
        for (int call = 13; call < 509; call += 4) {
            // each time the router loses its route, asks, and has it with the next sequence number
            y.round(2);
            y.offset(0, 9);
            y.round(2);
            y.offset(0, 0);
        }
        y.round(99);
        Check.due("about(7)", y.about(7), 3);
        Check.due("about(9)", y.about(9), 14);
        Check.due("about(5) as the 512th call", y.about(5), 124);
    }

    private static void negativeValues() {
        Edge.says("ERRORS", "A method reports an error by a negative return value.");
        // a method that answers without an error answers nothing below 0 but NONE
        MeshParents x = Edge.rich();
        int[] answers = {x.write('r'), x.wipe(), x.fault(), x.about(0), x.node(0, 0), x.link(0, 0), x.price(0, 1),
            x.safe(0, 1), x.round(1), x.turn(0), x.lose(0, true, 0), x.offset(0, 0), x.margin(0), x.undo(),
            x.ahead(0, 0, 9), x.still(), x.word(0), x.even(0), x.judge(1, 0), x.see(0, 0, 0), x.unsee(), x.which(),
            x.share(0, true), x.chance(0, true), x.drawn(1), x.keep(0), x.again(0)};
        for (int i = 0; i < answers.length; i++) {
            Check.holds("answer " + i + " is " + answers[i], answers[i] >= 0);
        }
        Check.holds("write(-1)", x.write(-1) < 0);
    }

    private static void unknown() {
        Edge.says("ERRORS", "UNKNOWN (-1): there is no such node, gateway, link or slot.");
        Edge.same("node(3, 0)", x -> x.node(3, 0), -1);
        Edge.same("offset(1, 0)", x -> x.offset(1, 0), -1);
        Edge.same("turn(2)", x -> x.turn(2), -1);
        Edge.same("keep(2)", x -> x.keep(2), -1);
    }

    private static void bad() {
        Edge.says("ERRORS", "BAD (-2): another argument is out of range.");
        Edge.same("node(2, 10)", x -> x.node(2, 10), -2);
        Edge.same("offset(0, 10)", x -> x.offset(0, 10), -2);
        Edge.same("round(100)", x -> x.round(100), -2);
    }

    private static void late() {
        Edge.says("ERRORS", "LATE (-3): the call is not possible, as the method says.");
        Edge.same(MeshParents::new, "undo()", x -> x.undo(), -3);
        Edge.same(MeshParents::new, "mesh()", x -> x.mesh(), -3);
        Edge.same("again(0)", x -> x.again(0), -3);
    }

    private static void full() {
        Edge.says("ERRORS", "FULL (-4): a limit is reached.");
        Edge.same(Edge::withSixObservations, "see(0, 0, 0)", x -> x.see(0, 0, 0), -4);
        Edge.same(() -> Check.withText("x".repeat(100)), "write(77)", x -> x.write(77), -4);
    }

    private static void order() {
        Edge.says("ERRORS",
            "Each method lists its errors in the order in which it checks them, and returns the first that applies.");
        Edge.same(() -> Check.withText("x".repeat(100)), "write(256)", x -> x.write(256), Check.BAD);
        Edge.same("node(3, 10)", x -> x.node(3, 10), Check.UNKNOWN);
        Edge.same("link(2, 7)", x -> x.link(2, 7), Check.UNKNOWN);
        Edge.same("price(3, 3)", x -> x.price(3, 3), Check.UNKNOWN);
        Edge.same("price(3, 0)", x -> x.price(3, 0), Check.UNKNOWN);
        Edge.same("safe(3, 3)", x -> x.safe(3, 3), Check.UNKNOWN);
        Edge.same("safe(3, 0)", x -> x.safe(3, 0), Check.UNKNOWN);
        Edge.same("lose(2, true, 10)", x -> x.lose(2, true, 10), Check.UNKNOWN);
        Edge.same("offset(3, 10)", x -> x.offset(3, 10), Check.UNKNOWN);
        Edge.same("offset(1, 10)", x -> x.offset(1, 10), Check.UNKNOWN);
        Edge.same("ahead(100, 3, 3)", x -> x.ahead(100, 3, 3), Check.UNKNOWN);
        Edge.same("ahead(1, 3, 10)", x -> x.ahead(1, 3, 10), Check.UNKNOWN);
        Edge.same(Edge::withSixObservations, "see(3, 21, 2)", x -> x.see(3, 21, 2), Check.UNKNOWN);
        Edge.same(Edge::withSixObservations, "see(3, 0, 0)", x -> x.see(3, 0, 0), Check.UNKNOWN);
        Edge.same(Edge::withSixObservations, "see(0, 21, 0)", x -> x.see(0, 21, 0), Check.BAD);
        Edge.same(Edge::withSixObservations, "see(0, 0, 2)", x -> x.see(0, 0, 2), Check.BAD);
        Edge.same("again(2)", x -> x.again(2), Check.UNKNOWN);
        Edge.same("again(-1)", x -> x.again(-1), Check.UNKNOWN);
    }

    private static void errorsChangeNothing() {
        Edge.says("ERRORS", "A call that returns an error changes nothing.");
        // one error after the other; each of them alone stands at its promise
        Edge.same("all at once", x -> x.write(256) + x.round(0) + x.turn(2) + x.lose(0, true, -1) + x.offset(0, -1)
            + x.margin(10) + x.see(0, 0, -1) + x.drawn(0) + x.keep(-1) + x.again(0) + x.judge(4, 0)
            + x.chance(11, true) + x.share(1, true) + x.even(1), -25);
    }

    private static void noneIsNoError() {
        Edge.says("ERRORS",
            "NONE (-9) is no error; it stands for \"no such thing\" and is returned only if no error applies.");
        Edge.same("node(0, 3)", x -> x.node(0, 3), -9);
        Edge.same("node(0, 10)", x -> x.node(0, 10), Check.BAD);
        Edge.same("price(2, 1), down", x -> x.price(2, 1), -9);
        Edge.same("price(2, 0), not near", x -> x.price(2, 0), Check.BAD);
        Edge.same("price(2, 2), not near", x -> x.price(2, 2), Check.BAD);
        Edge.same("price(2, 3)", x -> x.price(2, 3), Check.UNKNOWN);
        Edge.same("safe(2, 1), down", x -> x.safe(2, 1), -9);
        Edge.same("safe(2, 0), not near", x -> x.safe(2, 0), Check.BAD);
        Edge.same("safe(2, 2), not near", x -> x.safe(2, 2), Check.BAD);
        Edge.same("safe(2, 3)", x -> x.safe(2, 3), Check.UNKNOWN);
        Edge.same("ahead(0, 0, 3)", x -> x.ahead(0, 0, 3), -9);
        Edge.same("ahead(-1, 0, 3)", x -> x.ahead(-1, 0, 3), Check.BAD);
        Edge.same("node(-9, 3)", x -> x.node(-9, 3), Check.UNKNOWN);
    }

    private static void numberedFromZero() {
        Edge.says("ERRORS", "Everything is numbered from 0.");
        MeshParents x = Check.withMesh("M0g4rrk01001k12001");
        Check.due("the first node", x.node(0, 1), 4);
        Check.due("the last node", x.node(2, 0), 1);
        Check.due("one more node", x.node(3, 0), Check.UNKNOWN);
        Check.due("the first link", x.link(0, 1), 1);
        Check.due("the last link", x.link(1, 1), 2);
        Check.due("one more link", x.link(2, 0), Check.UNKNOWN);
        Check.due("the first slot", x.keep(0), 0);
        Check.due("the last slot", x.keep(1), 0);
        Check.due("one more slot", x.keep(2), Check.UNKNOWN);
        Check.due("the first event", x.judge(3, 0), 0);
        Check.due("the last event", x.judge(3, 700007000000000L), 2);
    }

    private static void sets() {
        Edge.says("ERRORS", "Sets are sets of bits: bit k stands for number k.");
        Check.due("eight gateways", Check.withMesh("M0" + Edge.GATEWAYS).about(2), 255);
        Check.due("eight leaves", Check.withMesh("M0" + Edge.LEAVES).about(3), 255);
        for (int k = 0; k < 8; k++) {
            MeshParents one = Check.withMesh("M0" + "r".repeat(k) + "g0" + "r".repeat(7 - k));
            Check.due("gateway " + k, one.about(2), 1 << k);
            Check.due("reached " + k, one.about(7), 1 << k);
            Check.due("leaf " + k, Check.withMesh("M0" + "r".repeat(k) + "l10" + "r".repeat(7 - k)).about(3), 1 << k);
        }
        MeshParents nine = Check.withMesh("M0" + Edge.GATEWAYS + Edge.NINE);
        Check.due("all nine links", nine.which(), 511);
        for (int k = 0; k < 9; k++) {
            nine.turn(k);
            Check.due("down up to link " + k, nine.about(8), (2 << k) - 1);
        }
        Check.due("no link is up", nine.which(), 0);
        nine.turn(8);
        Check.due("link 8 is up", nine.which(), 256);
    }

    private static void fractions() {
        Edge.says("ERRORS", "Fractions are in lowest terms with a positive denominator (0 is 0/1);"
            + " upper = true asks for the numerator, which may be negative, upper = false for the denominator.");
        MeshParents x = Check.withMesh("M0g0rk01001");
        int[][] lowest = {{1, 1}, {9, 10}, {4, 5}, {7, 10}, {3, 5}, {1, 2}, {2, 5}, {3, 10}, {1, 5}, {1, 10}, {0, 1}};
        for (int tenths = 0; tenths <= 10; tenths++) {
            Check.due("chance(" + tenths + ", true)", x.chance(tenths, true), lowest[tenths][0]);
            Check.due("chance(" + tenths + ", false)", x.chance(tenths, false), lowest[tenths][1]);
        }
        MeshParents never = Check.withMesh("M0g0rrk01001");
        Check.due("chance(3, true) of 0", never.chance(3, true), 0);
        Check.due("chance(3, false) of 0", never.chance(3, false), 1);
        // of three gateways two hear the router: 3/2, 3/2 and 6/6
        MeshParents three = Check.withMesh("M0g0g0g0rk03001k13009");
        Check.due("share(0, true)", three.share(0, true), 3);
        Check.due("share(0, false)", three.share(0, false), 2);
        Check.due("share(2, true)", three.share(2, true), 1);
        Check.due("share(2, false)", three.share(2, false), 1);
    }
}
