/** The paragraph ROUTES, sentence by sentence. */
final class EdgeRoutes {
    /** The longest way there is: seven links of the greatest airtime, from a gateway with the greatest offset. */
    static final String LONGEST = "M0g9rrrrrrrk01999k12999k23999k34999k45999k56999k67999";

    private EdgeRoutes() {
    }

    static void run() {
        noneAtFirst();
        firstBound();
        boundRemains();
        near();
        gatewaysOffer();
        routersOffer();
        othersOfferNothing();
        feasible();
        prices();
        atTheSameTime();
        theStateBefore();
        parentIsKept();
        parentIsLost();
        smallestPrice();
        withoutParent();
        margins();
        boundOfGreaterNumber();
        boundOfSameNumber();
        asks();
        asksNobody();
        anyNodeAsks();
        roundsIncrease();
        sleepingLeaf();
        reached();
        loads();
    }

    static void routeIs(MeshParents x, int node, int parent, int cost, int sequence) {
        Check.due("the parent of " + node, x.node(node, 3), parent);
        Check.due("the cost of " + node, x.node(node, 4), cost);
        Check.due("the sequence number of " + node, x.node(node, 5), sequence);
    }

    static void noRoute(MeshParents x, int node) {
        routeIs(x, node, Check.NONE, Check.NONE, Check.NONE);
    }

    static void boundIs(MeshParents x, int node, int sequence, int cost) {
        Check.due("the bound's sequence number of " + node, x.node(node, 6), sequence);
        Check.due("the bound's cost of " + node, x.node(node, 7), cost);
    }

    private static void noneAtFirst() {
        Edge.says("ROUTES", "A node that is not a gateway has perhaps a parent (none at first), which is a neighbor,"
            + " and with it a cost and the sequence number of its route.");
        MeshParents x = Check.withMesh("M0g0rl10k01001k12001");
        noRoute(x, 1);
        noRoute(x, 2);
        x.round(2);
        routeIs(x, 1, 0, 1, 0);
        routeIs(x, 2, 1, 2, 0);
        noRoute(x, 0);
    }

    private static void firstBound() {
        Edge.says("ROUTES", "It also has a bound, which consists of a sequence number and a cost, 0 and 9999 at first,");
        MeshParents x = Check.withMesh(LONGEST);
        for (int node = 1; node < 8; node++) {
            boundIs(x, node, 0, 9999);
        }
        x.round(7);
        // so no first offer is too dear for it
        boundIs(x, 7, 0, 6309);
    }

    private static void boundRemains() {
        Edge.says("ROUTES", "and remains when the parent is lost.");
        MeshParents x = Check.withMesh("M0g3rk01004");
        x.round(1);
        x.turn(0);
        x.round(5);
        noRoute(x, 1);
        boundIs(x, 1, 0, 7);
    }

    private static void near() {
        Edge.says("ROUTES", "Two nodes are near if there is a link between them that is up.");
        MeshParents x = Check.withMesh("M0g0rrk10001");
        Check.due("near", x.price(0, 1), 1);
        Check.due("no link", x.price(0, 2), Check.NONE);
        x.turn(0);
        Check.due("a link that is down", x.price(0, 1), Check.NONE);
        Check.due("nobody has a route", x.round(1), 1);
        x.turn(0);
        Check.due("near again", x.price(0, 1), 1);
        Check.due("a route", x.round(1), 2);
    }

    private static void gatewaysOffer() {
        Edge.says("ROUTES", "A gateway always offers the pair (the sequence number of the mesh, its offset).");
        MeshParents x = Check.withMesh("M0g0rg9k01001k21001");
        Check.due("price(0, 1)", x.price(0, 1), 1);
        Check.due("price(2, 1)", x.price(2, 1), 10);
        x.round(1);
        x.turn(0);
        x.turn(1);
        x.round(1);
        x.turn(1);
        // the offset of 9 is not less than the bound of 1, so router 1 asks
        Check.due("safe(2, 1)", x.safe(2, 1), 0);
        x.round(1);
        Check.due("the sequence number", x.about(5), 1);
        Check.due("safe(2, 1) with the new number", x.safe(2, 1), 1);
        x.round(1);
        routeIs(x, 1, 2, 10, 1);
    }

    private static void routersOffer() {
        Edge.says("ROUTES", "A router that has a parent offers (the sequence number of its route, its cost).");
        MeshParents x = Check.withMesh("M0g4rrk01003k12002");
        Check.due("without a parent", x.price(1, 2), Check.NONE);
        x.round(1);
        Check.due("with a parent", x.price(1, 2), 9);
        x.turn(0);
        Check.due("before it knows that its link is down", x.price(1, 2), 9);
        x.round(1);
        Check.due("without a parent again", x.price(1, 2), Check.NONE);
    }

    private static void othersOfferNothing() {
        Edge.says("ROUTES", "Other nodes offer nothing.");
        MeshParents x = Check.withMesh("M0g0l10rk01001k12001");
        x.round(9);
        routeIs(x, 1, 0, 1, 0);
        Check.due("price(1, 2) of a leaf", x.price(1, 2), Check.NONE);
        Check.due("safe(1, 2) of a leaf", x.safe(1, 2), Check.NONE);
        noRoute(x, 2);
        Check.due("nobody asked", x.about(5), 0);
    }

    private static void feasible() {
        Edge.says("ROUTES", "An offer (s, d) is feasible for a node if s is greater than the sequence number of its"
            + " bound, or if s is equal to it and d is less than the cost of its bound.");
        MeshParents x = Check.withMesh("M0g0rk01005");
        x.round(1);
        for (int d = 0; d <= 9; d++) {
            x.offset(0, d);
            Check.due("safe(0, 1) with the offset " + d, x.safe(0, 1), d < 5 ? 1 : 0);
        }
        x.round(1);
        for (int d = 0; d <= 9; d++) {
            x.offset(0, d);
            Check.due("safe(0, 1) with a greater number and the offset " + d, x.safe(0, 1), 1);
        }
        // three routers in a ring, of which 3 still has the old number when 1 has the new one and a dear route
        MeshParents old = Check.withMesh("M0g0rrrk01001k12001k23001k31001");
        old.turn(3);
        old.round(5);
        old.offset(0, 9);
        old.round(2);
        old.turn(3);
        boundIs(old, 1, 1, 10);
        routeIs(old, 3, 2, 3, 0);
        Check.due("safe(3, 1) with a smaller number", old.safe(3, 1), 0);
        old.round(1);
        // router 2 has asked in the meantime
        routeIs(old, 1, 0, 10, 2);
    }

    private static void prices() {
        Edge.says("ROUTES", "The price of an offer for a node is d plus the airtime of the link.");
        Check.due("the smallest", Check.withMesh("M0g0rk01001").price(0, 1), 1);
        MeshParents x = Check.withMesh(LONGEST);
        for (int node = 1; node < 8; node++) {
            Check.due("the price for " + node, x.price(node - 1, node), 9 + 900 * node);
            x.round(1);
            routeIs(x, node, node - 1, 9 + 900 * node, 0);
        }
    }

    private static void atTheSameTime() {
        Edge.says("ROUTES", "all of them at the same time, by the state before the round:");
        // one step a round, whichever way the nodes are numbered
        MeshParents up = Check.withMesh("M0g0rrrrrrrk01001k12001k23001k34001k45001k56001k67001");
        MeshParents down = Check.withMesh("M0rrrrrrrg0k01001k12001k23001k34001k45001k56001k67001");
        for (int n = 1; n <= 9; n++) {
            Check.due("up, round " + n, up.round(1), Math.min(8, n + 1));
            Check.due("down, round " + n, down.round(1), Math.min(8, n + 1));
        }
        up.turn(0);
        down.turn(6);
        for (int n = 1; n <= 7; n++) {
            up.round(1);
            down.round(1);
            Check.due("up, parents after " + n, up.node(n, 3), Check.NONE);
            Check.due("down, parents after " + n, down.node(7 - n, 3), Check.NONE);
            if (n < 7) {
                Check.due("up, the next one's parent", up.node(n + 1, 3), n);
                Check.due("down, the next one's parent", down.node(6 - n, 3), 7 - n);
            }
        }
    }

    private static void theStateBefore() {
        Edge.says("ROUTES", "In a round each node that is not a gateway and is awake"
            + " (by the number of rounds before this one)");
        Check.due("l10 in round 0", Check.withMesh("M0g0l10k01001").round(1), 2);
        Check.due("l20 in round 0", Check.withMesh("M0g0l20k01001").round(1), 2);
        Check.due("l21 in round 0", Check.withMesh("M0g0l21k01001").round(1), 1);
        Check.due("l21 in rounds 0 and 1", Check.withMesh("M0g0l21k01001").round(2), 2);
        Check.due("l98 in rounds 0 to 7", Check.withMesh("M0g0l98k01001").round(8), 1);
        Check.due("l98 in rounds 0 to 8", Check.withMesh("M0g0l98k01001").round(9), 2);
    }

    private static void parentIsKept() {
        Edge.says("ROUTES", "1. If it has a parent, and this is near and makes a feasible offer, its cost becomes the"
            + " price of the offer, and the sequence number of its route s.");
        MeshParents x = Check.withMesh("M9g0g0rk02005k12003");
        x.turn(1);
        x.round(1);
        x.turn(1);
        x.offset(0, 4);
        x.round(1);
        // 4 is less than the bound of 5; the other gateway is cheaper, but not by more than the margin
        routeIs(x, 2, 0, 9, 0);
        boundIs(x, 2, 0, 5);
        x.lose(0, true, 1);
        x.round(1);
        routeIs(x, 2, 0, 10, 0);
        // another router asks, and the new number comes with the parent's next offer
        MeshParents y = Check.withMesh("M0g0rrk01003k02001");
        y.round(1);
        y.offset(0, 1);
        y.round(1);
        routeIs(y, 1, 0, 4, 0);
        noRoute(y, 2);
        y.round(1);
        routeIs(y, 1, 0, 4, 1);
    }

    private static void parentIsLost() {
        Edge.says("ROUTES", "Otherwise it has no parent any more.");
        MeshParents dear = Check.withMesh("M0g0rk01005");
        dear.round(1);
        dear.offset(0, 5);
        dear.round(1);
        // 5 is not less than 5
        noRoute(dear, 1);
        MeshParents far = Check.withMesh("M0g0rk01005");
        far.round(1);
        far.turn(0);
        far.round(1);
        noRoute(far, 1);
        MeshParents silent = Check.withMesh("M0g0rrk01001k12001");
        silent.round(2);
        silent.turn(0);
        silent.round(1);
        noRoute(silent, 1);
        routeIs(silent, 2, 1, 2, 0);
        silent.round(1);
        noRoute(silent, 2);
    }

    private static void smallestPrice() {
        Edge.says("ROUTES", "2. Of all feasible offers of near nodes the one with the smallest price is looked at,"
            + " of several that of the lowest node.");
        String[] links = {"k03003", "k13002", "k23002"};
        for (int i = 0; i < 6; i++) {
            String text = "M0g0g0g0r" + links[i % 3] + links[(i % 3 + 1 + i / 3) % 3] + links[(i % 3 + 2 - i / 3) % 3];
            MeshParents x = Check.withMesh(text);
            x.round(1);
            routeIs(x, 3, 1, 2, 0);
        }
        // 5 + 1 is more than 0 + 5, however small the airtime is; and an offer that is not feasible does not count
        MeshParents y = Check.withMesh("M0g5g0rk02001k12005");
        y.round(1);
        routeIs(y, 2, 1, 5, 0);
        y.offset(1, 6);
        y.offset(0, 4);
        y.lose(0, true, 9);
        y.round(1);
        routeIs(y, 2, 0, 14, 0);
    }

    private static void withoutParent() {
        Edge.says("ROUTES", "If the node has no parent now, that node becomes its parent;");
        MeshParents x = Check.withMesh("M9g0g0rk02001k12009");
        x.round(1);
        x.turn(0);
        x.round(1);
        // it lost the one and has the other in the same round, whatever the margin is
        routeIs(x, 2, 1, 9, 0);
        Check.due("it asked nobody", x.about(5), 0);
    }

    private static void margins() {
        Edge.says("ROUTES", "if it has one, that node becomes its parent if the cost is greater than the price plus the"
            + " margin. If it becomes the parent, the cost becomes the price, and the sequence number of the route s.");
        for (int margin = 1; margin <= 9; margin++) {
            MeshParents x = Check.withMesh("M" + margin + "g0g0rk02001k1200" + (10 - margin));
            x.round(1);
            x.lose(0, false, 9);
            x.round(1);
            // 10 is the other's price plus the margin
            routeIs(x, 2, 0, 10, 0);
            x.margin(margin - 1);
            x.round(1);
            routeIs(x, 2, 1, 10 - margin, 0);
        }
        MeshParents zero = Check.withMesh("M0g0g0rk02001k12009");
        zero.round(1);
        zero.lose(0, false, 4);
        Check.due("the airtime", zero.lose(0, true, 8), 9);
        zero.round(1);
        routeIs(zero, 2, 0, 9, 0);
        zero.lose(0, true, 0);
        Check.due("the airtime", zero.lose(0, false, 9), 10);
        zero.round(1);
        routeIs(zero, 2, 1, 9, 0);
    }

    private static void boundOfGreaterNumber() {
        Edge.says("ROUTES", "3. If it has a parent now: if the sequence number of its route is greater than that of its"
            + " bound, the bound becomes this sequence number and its cost;");
        MeshParents x = Check.withMesh("M0g0rk01001");
        x.round(1);
        boundIs(x, 1, 0, 1);
        x.offset(0, 9);
        x.round(2);
        // although the cost is greater
        boundIs(x, 1, 1, 10);
    }

    private static void boundOfSameNumber() {
        Edge.says("ROUTES", "otherwise the cost of its bound becomes its cost, if this is less.");
        MeshParents x = Check.withMesh("M0g4rk01001");
        x.round(1);
        boundIs(x, 1, 0, 5);
        x.round(1);
        boundIs(x, 1, 0, 5);
        x.lose(0, true, 9);
        x.round(1);
        routeIs(x, 1, 0, 14, 0);
        boundIs(x, 1, 0, 5);
        x.lose(0, true, 0);
        x.offset(0, 3);
        x.round(1);
        routeIs(x, 1, 0, 4, 0);
        boundIs(x, 1, 0, 4);
    }

    private static void asks() {
        Edge.says("ROUTES", "4. If it has no parent now, but a near node made an offer, feasible or not,"
            + " it asks for a new sequence number.");
        MeshParents x = Check.withMesh("M0g0rk01001");
        x.round(1);
        x.offset(0, 1);
        x.round(1);
        noRoute(x, 1);
        Check.due("a router asks", x.about(5), 1);
        MeshParents y = Check.withMesh("M0g0l31k01001");
        y.round(2);
        y.offset(0, 1);
        y.round(2);
        Check.due("a leaf that sleeps asks nobody", y.about(5), 0);
        y.round(1);
        noRoute(y, 1);
        Check.due("a leaf that is awake asks", y.about(5), 1);
    }

    private static void asksNobody() {
        Edge.says("ROUTES", "it asks for a new sequence number. If any node asks,");
        MeshParents alone = Check.withMesh("M0rrl10k01001k12001");
        alone.round(20);
        Check.due("no node made an offer", alone.about(5), 0);
        MeshParents cut = Check.withMesh("M0g0rk01001");
        cut.round(1);
        cut.turn(0);
        cut.round(20);
        Check.due("no near node made an offer", cut.about(5), 0);
        MeshParents content = Check.withMesh("M0g0rrk01001k12001");
        content.round(20);
        Check.due("nobody is without a parent", content.about(5), 0);
    }

    private static void anyNodeAsks() {
        Edge.says("ROUTES", "If any node asks, the sequence number of the mesh increases by 1.");
        MeshParents x = Check.withMesh("M0g0rrrrrrrk01001k02001k03001k04001k05001k06001k07001");
        x.round(1);
        x.offset(0, 1);
        x.round(1);
        for (int node = 1; node < 8; node++) {
            noRoute(x, node);
        }
        Check.due("seven ask", x.about(5), 1);
        x.round(1);
        Check.due("nobody asks", x.about(5), 1);
        // the way to the gateway is long: router 1 asks again until the new number comes
        MeshParents y = Check.withMesh("M0g0rrk02001k12001");
        y.round(2);
        y.offset(0, 1);
        y.round(1);
        Check.due("router 2 asks", y.about(5), 1);
        y.round(1);
        Check.due("router 2 has no offer for router 1", y.about(5), 1);
        routeIs(y, 2, 0, 2, 1);
        y.round(1);
        routeIs(y, 1, 2, 3, 1);
    }

    private static void roundsIncrease() {
        Edge.says("ROUTES", "The number of rounds increases by 1.");
        MeshParents x = Check.withMesh("M0g0rk01001");
        for (int n = 1; n <= 30; n++) {
            x.round(1);
            Check.due("about(6)", x.about(6), n);
        }
    }

    private static void sleepingLeaf() {
        Edge.says("ROUTES", "A leaf that is not awake keeps everything as it is, even if its link is down"
            + " or its parent has lost its route.");
        MeshParents x = Check.withMesh("M0g0rl98k01001k12001");
        x.round(9);
        routeIs(x, 2, 1, 2, 0);
        x.turn(1);
        x.offset(0, 9);
        for (int n = 1; n <= 8; n++) {
            x.round(1);
            routeIs(x, 2, 1, 2, 0);
            boundIs(x, 2, 0, 2);
        }
        x.round(1);
        noRoute(x, 2);
        MeshParents y = Check.withMesh("M0g0rl98k01001k12001");
        y.round(9);
        y.turn(0);
        Check.due("its parent has lost its route", y.round(8), 1);
        routeIs(y, 2, 1, 2, 0);
        y.round(1);
        noRoute(y, 2);
    }

    private static void reached() {
        Edge.says("ROUTES", "A node is reached if it is a gateway, or has a parent that is reached; its route ends at"
            + " the gateway to which its parents lead (a gateway's at itself).");
        MeshParents x = Check.withMesh("M0rg0rg0rk01001k34001k42001");
        Check.due("gateways", x.about(7), 0b01010);
        Check.due("node(1, 8)", x.node(1, 8), 1);
        Check.due("node(2, 8)", x.node(2, 8), Check.NONE);
        x.round(2);
        int[] ends = {1, 1, 3, 3, 3};
        for (int node = 0; node < 5; node++) {
            Check.due("node(" + node + ", 8)", x.node(node, 8), ends[node]);
        }
        x.turn(1);
        x.round(1);
        // router 2 still has its parent, but this is not reached
        Check.due("its parent", x.node(2, 3), 4);
        Check.due("about(7)", x.about(7), 0b01011);
        Check.due("node(2, 8)", x.node(2, 8), Check.NONE);
    }

    private static void loads() {
        Edge.says("ROUTES", "The load of a gateway is the number of other nodes whose routes end there.");
        MeshParents x = Check.withMesh("M0g0rrrrrrrk01001k12001k23001k34001k45001k56001k67001");
        for (int n = 0; n <= 8; n++) {
            Check.due("the load after " + n, x.node(0, 9), Math.min(7, n));
            x.round(1);
        }
        MeshParents two = Check.withMesh("M0g0g0k01001");
        two.round(2);
        Check.due("a gateway is no load of another", two.node(0, 9), 0);
    }
}
