/** The promises 6 to 10, sentence by sentence. */
final class EdgeLooks {
    private EdgeLooks() {
    }

    static void run() {
        aboutAll();
        aboutAnswers();
        nodeAll();
        nodeAnswers();
        linkAll();
        linkAnswers();
        fromAndTo();
        priceAnswers();
        safeAnswers();
    }

    private static void aboutAll() {
        Edge.says("Promise 6", "`what`: 0 nodes; 1 links; 2 the set of the gateways; 3 the set of the leaves; 4 the"
            + " margin; 5 the sequence number; 6 the number of rounds; 7 the set of the reached nodes; 8 the set of the"
            + " links that are down; 9 changes that are kept; 10 observations; 11 characters of the text");
        aboutIs("nothing", new MeshParents(), 0, 0, 0, 0, 0, 0, 0, 0, 0, 0, 0, 0);
        MeshParents full = Check.withMesh("M9" + Edge.GATEWAYS + Edge.NINE);
        for (int link = 0; link < 9; link++) {
            full.turn(link);
        }
        for (int n = 0; n < 6; n++) {
            full.round(99);
            full.see(7, 20, 0);
            Check.writeAll(full, "xxxxx");
        }
        aboutIs("a full mesh", full, 8, 9, 255, 0, 9, 0, 594, 255, 511, 14, 6, 100);
        MeshParents leaves = Check.withMesh("M1" + Edge.LEAVES);
        aboutIs("eight leaves", leaves, 8, 0, 0, 255, 1, 0, 0, 0, 0, 0, 0, 26);
        MeshParents some = Check.withMesh("M0g1l10rg0k01001k12001");
        some.round(1);
        some.offset(0, 5);
        some.round(1);
        some.turn(1);
        // the leaf has asked; node 2 hears nothing of it, nor of gateway 3
        aboutIs("some", some, 4, 2, 0b1001, 0b0010, 0, 1, 2, 0b1001, 0b10, 4, 0, 22);
    }

    private static void aboutIs(String name, MeshParents x, int... want) {
        for (int what = 0; what <= 11; what++) {
            Check.due("about(" + what + ") of " + name, x.about(what), want[what]);
        }
    }

    private static void aboutAnswers() {
        Edge.says("Promise 6", "Returns the number; BAD if what is not 0 to 11.");
        Edge.same("about(0)", x -> x.about(0), 3);
        Edge.same("about(11)", x -> x.about(11), 21);
        for (int what : new int[] {-1, 12, 256, Edge.MIN, Edge.MAX}) {
            Edge.same("about(" + what + ")", x -> x.about(what), Check.BAD);
            Edge.same(MeshParents::new, "about(" + what + ")", x -> x.about(what), Check.BAD);
        }
    }

    private static void nodeIs(MeshParents x, int node, int... want) {
        for (int what = 0; what <= 9; what++) {
            Check.due("node(" + node + ", " + what + ")", x.node(node, what), want[what]);
        }
    }

    private static void nodeAll() {
        Edge.says("Promise 7", "`what`: 0 its kind: 0 gateway, 1 router, 2 leaf; 1 the offset of a gateway, the cycle"
            + " of a leaf, 0 for a router; 2 the phase of a leaf, otherwise 0; 3 its parent, or NONE; 4 its cost, or"
            + " NONE without a parent; 5 the sequence number of its route, or NONE without a parent; 6 the sequence"
            + " number of its bound, or NONE for a gateway; 7 the cost of its bound, or NONE for a gateway; 8 the"
            + " gateway at which its route ends, or NONE if it is not reached; 9 the load of a gateway, or NONE for"
            + " other nodes");
        MeshParents x = Check.withMesh("M0rg9l98k01001k21001l10");
        nodeIs(x, 0, 1, 0, 0, -9, -9, -9, 0, 9999, -9, -9);
        nodeIs(x, 1, 0, 9, 0, -9, -9, -9, -9, -9, 1, 0);
        nodeIs(x, 2, 2, 9, 8, -9, -9, -9, 0, 9999, -9, -9);
        nodeIs(x, 3, 2, 1, 0, -9, -9, -9, 0, 9999, -9, -9);
        x.round(9);
        nodeIs(x, 0, 1, 0, 0, 1, 10, 0, 0, 10, 1, -9);
        nodeIs(x, 1, 0, 9, 0, -9, -9, -9, -9, -9, 1, 2);
        nodeIs(x, 2, 2, 9, 8, 1, 10, 0, 0, 10, 1, -9);
        x.turn(0);
        x.round(1);
        nodeIs(x, 0, 1, 0, 0, -9, -9, -9, 0, 10, -9, -9);
        MeshParents longest = Check.withMesh(EdgeRoutes.LONGEST);
        longest.round(99);
        nodeIs(longest, 0, 0, 9, 0, -9, -9, -9, -9, -9, 0, 7);
        nodeIs(longest, 1, 1, 0, 0, 0, 909, 0, 0, 909, 0, -9);
        nodeIs(longest, 7, 1, 0, 0, 6, 6309, 0, 0, 6309, 0, -9);
    }

    private static void nodeAnswers() {
        Edge.says("Promise 7", "Returns the property; UNKNOWN if there is no such node; BAD if what is not 0 to 9.");
        Edge.same("node(0, 0)", x -> x.node(0, 0), 0);
        Edge.same("node(2, 9)", x -> x.node(2, 9), Check.NONE);
        for (int node : new int[] {-1, 3, 8, 256, Edge.MIN, Edge.MAX}) {
            Edge.same("node(" + node + ", 0)", x -> x.node(node, 0), Check.UNKNOWN);
        }
        for (int what : new int[] {-1, 10, 256, Edge.MIN, Edge.MAX}) {
            Edge.same("node(0, " + what + ")", x -> x.node(0, what), Check.BAD);
            Edge.same("node(2, " + what + ")", x -> x.node(2, what), Check.BAD);
        }
        Check.due("node(7, 0) of eight", Check.withMesh("M0" + Edge.ROUTERS).node(7, 0), 1);
        Check.due("node(8, 0) of eight", Check.withMesh("M0" + Edge.ROUTERS).node(8, 0), Check.UNKNOWN);
        Check.due("node(0, 0) of nothing", new MeshParents().node(0, 0), Check.UNKNOWN);
    }

    private static void linkAll() {
        Edge.says("Promise 8", "`what`: 0 its first node; 1 its second node; 2 the loss from the first node; 3 the loss"
            + " back; 4 slots; 5 airtime; 6 whether it is down (1 or 0)");
        MeshParents x = Check.withMesh("M0" + Edge.ROUTERS + "k70901k12999k34001");
        int[][] want = {{7, 0, 9, 0, 1, 10, 0}, {1, 2, 9, 9, 9, 900, 0}, {3, 4, 0, 0, 1, 1, 0}};
        for (int link = 0; link < 3; link++) {
            for (int what = 0; what <= 6; what++) {
                Check.due("link(" + link + ", " + what + ")", x.link(link, what), want[link][what]);
            }
        }
        x.turn(1);
        Check.due("link(1, 6)", x.link(1, 6), 1);
        x.turn(1);
        Check.due("link(1, 6)", x.link(1, 6), 0);
    }

    private static void linkAnswers() {
        Edge.says("Promise 8", "Returns the property; UNKNOWN if there is no such link; BAD if what is not 0 to 6.");
        Edge.same("link(0, 0)", x -> x.link(0, 0), 0);
        Edge.same("link(1, 6)", x -> x.link(1, 6), 1);
        for (int link : new int[] {-1, 2, 9, 256, Edge.MIN, Edge.MAX}) {
            Edge.same("link(" + link + ", 0)", x -> x.link(link, 0), Check.UNKNOWN);
        }
        for (int what : new int[] {-1, 7, 256, Edge.MIN, Edge.MAX}) {
            Edge.same("link(0, " + what + ")", x -> x.link(0, what), Check.BAD);
            Edge.same("link(1, " + what + ")", x -> x.link(1, what), Check.BAD);
        }
        MeshParents nine = Check.withMesh("M0" + Edge.ROUTERS + Edge.NINE);
        Check.due("link(8, 0) of nine", nine.link(8, 0), 3);
        Check.due("link(9, 0) of nine", nine.link(9, 0), Check.UNKNOWN);
        Check.due("link(0, 0) of nothing", new MeshParents().link(0, 0), Check.UNKNOWN);
    }

    /** A gateway, a router that has a parent, a leaf that has one, a router that has none, a gateway that is far. */
    private static MeshParents five() {
        MeshParents x = Check.withMesh("M0g2rl10rg0k01001k12001k23001k13001");
        x.turn(3);
        x.round(2);
        return x;
    }

    interface Ask {
        int of(MeshParents x, int from, int to);
    }

    private static void askedOf(String name, Ask ask, int offer, int ofRouter) {
        int[][] pairs = {{0, 1, offer}, {1, 2, ofRouter}, {0, 2, Check.NONE}, {1, 3, Check.NONE}, {3, 1, Check.NONE},
            {3, 2, Check.NONE}, {2, 1, Check.NONE}, {2, 3, Check.NONE}, {4, 1, Check.NONE},
            {0, 0, Check.BAD}, {1, 1, Check.BAD}, {3, 3, Check.BAD}, {1, 0, Check.BAD}, {0, 4, Check.BAD},
            {3, 4, Check.BAD}, {4, 4, Check.BAD}, {-1, 1, Check.UNKNOWN}, {5, 1, Check.UNKNOWN}, {1, -1, Check.UNKNOWN},
            {1, 5, Check.UNKNOWN}, {-1, -1, Check.UNKNOWN}, {5, 5, Check.UNKNOWN}, {5, 0, Check.UNKNOWN},
            {0, 5, Check.UNKNOWN}, {Edge.MIN, Edge.MAX, Check.UNKNOWN}, {Edge.MAX, 0, Check.UNKNOWN}};
        for (int[] pair : pairs) {
            Edge.same(EdgeLooks::five, name + "(" + pair[0] + ", " + pair[1] + ")",
                x -> ask.of(x, pair[0], pair[1]), pair[2]);
        }
    }

    private static void fromAndTo() {
        for (String promise : new String[] {"Promise 9", "Promise 10"}) {
            Edge.says(promise, "`from`: the node that makes the offer - `to`: the other node");
            // two routers with a link between them: the one has the cost 3, the other 7
            MeshParents x = Check.withMesh("M0g0rrg0k01003k12001k23007");
            x.turn(1);
            x.round(1);
            x.turn(1);
            Check.due("price(1, 2)", x.price(1, 2), 4);
            Check.due("price(2, 1)", x.price(2, 1), 8);
            Check.due("safe(1, 2)", x.safe(1, 2), 1);
            Check.due("safe(2, 1)", x.safe(2, 1), 0);
        }
    }

    private static void priceAnswers() {
        Edge.says("Promise 9", "Returns the price, or NONE if they are not near or the node makes no offer;"
            + " UNKNOWN if there is no such node; BAD if both are the same or to is a gateway.");
        askedOf("price", (x, from, to) -> x.price(from, to), 3, 4);
        // an offer that is not feasible has a price too
        MeshParents x = five();
        x.offset(0, 9);
        Check.due("price(0, 1)", x.price(0, 1), 10);
    }

    private static void safeAnswers() {
        Edge.says("Promise 10", "Returns 1 if it is, 0 if not, or NONE if they are not near or the node makes no offer;"
            + " UNKNOWN if there is no such node; BAD if both are the same or to is a gateway.");
        askedOf("safe", (x, from, to) -> x.safe(from, to), 1, 1);
        MeshParents x = five();
        x.offset(0, 3);
        Check.due("safe(0, 1)", x.safe(0, 1), 0);
        x.turn(3);
        // the router of cost 3 is all right for node 3, which has no bound yet
        Check.due("safe(1, 3)", x.safe(1, 3), 1);
    }
}
