/** Promises 6 to 10: about, node, link, price and safe. */
final class LookTest {
    /** A gateway, a router near it, a router behind that one, a leaf at its end, a gateway alone. */
    private static final String LINE = "M1g2rrl20g5k01001k12002k23003";

    public static void main(String[] args) {
        about();
        node();
        boundsOfLostRoutes();
        link();
        airtimes();
        price();
        safe();
        Check.end();
    }

    private static void about() {
        Check.test("promise 6");
        MeshParents x = Check.withMesh(LINE);
        // the leaf is awake in round 0, when its neighbor offers nothing yet, and in round 2
        int[] first = {5, 3, 0b10001, 0b01000, 1, 0, 0, 0b10001, 0, 0, 0, 29};
        for (int what = 0; what < 12; what++) {
            int want = first[what];
            int asked = what;
            Check.changesNothing("about(" + what + ")", x, o -> o.about(asked), want);
        }
        x.round(1);
        Check.due("reached after 1", x.about(7), 0b10011);
        x.round(1);
        Check.due("reached after 2", x.about(7), 0b10111);
        x.round(1);
        Check.due("reached after 3", x.about(7), 0b11111);
        x.turn(2);
        x.turn(0);
        x.see(0, 0, 1);
        x.margin(6);
        int[] later = {5, 3, 0b10001, 0b01000, 6, 0, 3, 0b11111, 0b101, 6, 1, 29};
        for (int what = 0; what < 12; what++) {
            Check.due("about(" + what + ") later", x.about(what), later[what]);
        }
        x.round(1);
        // router 1 has lost its route, and the offer of router 2 is not feasible for it
        Check.due("the sequence number", x.about(5), 1);
        Check.due("reached then", x.about(7), 0b10001);
        Check.refused("about(-1)", x, o -> o.about(-1), Check.BAD);
        Check.refused("about(12)", x, o -> o.about(12), Check.BAD);
        Check.refused("about(MIN)", x, o -> o.about(Integer.MIN_VALUE), Check.BAD);
    }

    private static void nodeIs(MeshParents x, int node, int... want) {
        for (int what = 0; what < 10; what++) {
            Check.due("node(" + node + ", " + what + ")", x.node(node, what), want[what]);
        }
    }

    private static void node() {
        Check.test("promise 7");
        MeshParents x = Check.withMesh(LINE);
        nodeIs(x, 0, 0, 2, 0, -9, -9, -9, -9, -9, 0, 0);
        nodeIs(x, 1, 1, 0, 0, -9, -9, -9, 0, 9999, -9, -9);
        nodeIs(x, 3, 2, 2, 0, -9, -9, -9, 0, 9999, -9, -9);
        x.round(3);
        nodeIs(x, 0, 0, 2, 0, -9, -9, -9, -9, -9, 0, 3);
        nodeIs(x, 1, 1, 0, 0, 0, 3, 0, 0, 3, 0, -9);
        nodeIs(x, 2, 1, 0, 0, 1, 5, 0, 0, 5, 0, -9);
        nodeIs(x, 3, 2, 2, 0, 2, 8, 0, 0, 8, 0, -9);
        nodeIs(x, 4, 0, 5, 0, -9, -9, -9, -9, -9, 4, 0);
        Check.refused("node(5, 0)", x, o -> o.node(5, 0), Check.UNKNOWN);
        Check.refused("node(-1, 0)", x, o -> o.node(-1, 0), Check.UNKNOWN);
        Check.refused("node(8, 0)", x, o -> o.node(8, 0), Check.UNKNOWN);
        Check.refused("node(-9, 0)", x, o -> o.node(-9, 0), Check.UNKNOWN);
        Check.refused("node(0, -1)", x, o -> o.node(0, -1), Check.BAD);
        Check.refused("node(0, 10)", x, o -> o.node(0, 10), Check.BAD);
        Check.refused("node(5, 10)", x, o -> o.node(5, 10), Check.UNKNOWN);
    }

    private static void boundsOfLostRoutes() {
        Check.test("promise 7, a bound remains");
        MeshParents x = Check.withMesh(LINE);
        x.round(4);
        x.turn(0);
        x.round(1);
        nodeIs(x, 1, 1, 0, 0, -9, -9, -9, 0, 3, -9, -9);
        // router 2 still has its parent, but this is not reached any more
        nodeIs(x, 2, 1, 0, 0, 1, 5, 0, 0, 5, -9, -9);
        Check.due("node(0, 9)", x.node(0, 9), 0);
        x.turn(0);
        x.round(1);
        // the gateway now offers the sequence number 1; router 2 asks, as its neighbors offer nothing
        nodeIs(x, 1, 1, 0, 0, 0, 3, 1, 1, 3, 0, -9);
        nodeIs(x, 2, 1, 0, 0, -9, -9, -9, 0, 5, -9, -9);
        // nobody made router 2 an offer before this round, so it did not ask
        Check.due("about(5)", x.about(5), 1);
        x.round(1);
        nodeIs(x, 2, 1, 0, 0, 1, 5, 1, 1, 5, 0, -9);
    }

    private static void link() {
        Check.test("promise 8");
        MeshParents x = Check.withMesh("M0rrrk20123k01457");
        int[][] want = {{2, 0, 1, 2, 3, 5, 0}, {0, 1, 4, 5, 7, 24, 0}};
        for (int link = 0; link < 2; link++) {
            for (int what = 0; what < 7; what++) {
                int l = link;
                int w = what;
                Check.changesNothing("link(" + l + ", " + w + ")", x, o -> o.link(l, w), want[l][w]);
            }
        }
        x.turn(1);
        Check.due("link(1, 6)", x.link(1, 6), 1);
        Check.due("link(0, 6)", x.link(0, 6), 0);
        Check.refused("link(2, 0)", x, o -> o.link(2, 0), Check.UNKNOWN);
        Check.refused("link(-1, 0)", x, o -> o.link(-1, 0), Check.UNKNOWN);
        Check.refused("link(9, 0)", x, o -> o.link(9, 0), Check.UNKNOWN);
        Check.refused("link(0, 7)", x, o -> o.link(0, 7), Check.BAD);
        Check.refused("link(0, -1)", x, o -> o.link(0, -1), Check.BAD);
        Check.refused("link(2, 7)", x, o -> o.link(2, 7), Check.UNKNOWN);
    }

    private static void airtimes() {
        Check.test("promise 8, airtime");
        for (int loss = 0; loss <= 9; loss++) {
            for (int back = 0; back <= 9; back++) {
                for (int slots = 1; slots <= 9; slots++) {
                    MeshParents x = Check.withMesh("M0rrk01" + loss + back + slots);
                    int arriving = (10 - loss) * (10 - back);
                    int airtime = x.link(0, 5);
                    // the smallest whole number that is not below the fraction
                    Check.holds("airtime " + airtime + " of " + loss + back + slots,
                        airtime * arriving >= 100 * slots && (airtime - 1) * arriving < 100 * slots);
                }
            }
        }
        Check.due("the greatest", Check.withMesh("M0rrk01999").link(0, 5), 900);
        Check.due("the smallest", Check.withMesh("M0rrk01001").link(0, 5), 1);
    }

    private static void price() {
        Check.test("promise 9");
        MeshParents x = Check.withMesh(LINE);
        Check.changesNothing("price(0, 1)", x, o -> o.price(0, 1), 3);
        Check.due("no route yet: price(1, 2)", x.price(1, 2), Check.NONE);
        Check.due("not near: price(0, 2)", x.price(0, 2), Check.NONE);
        x.round(3);
        Check.due("price(1, 2)", x.price(1, 2), 5);
        Check.due("price(2, 1)", x.price(2, 1), 7);
        Check.due("price(2, 3)", x.price(2, 3), 8);
        Check.due("a leaf offers nothing: price(3, 2)", x.price(3, 2), Check.NONE);
        x.offset(0, 9);
        Check.due("price(0, 1) with the new offset", x.price(0, 1), 10);
        x.lose(0, true, 9);
        Check.due("price(0, 1) with the new loss", x.price(0, 1), 19);
        x.turn(0);
        Check.due("down: price(0, 1)", x.price(0, 1), Check.NONE);
        x.turn(0);
        Check.due("up: price(0, 1)", x.price(0, 1), 19);
        errorsOfOffers(x, (o, from, to) -> o.price(from, to), "price");
    }

    private static void safe() {
        Check.test("promise 10");
        MeshParents x = Check.withMesh(LINE);
        Check.changesNothing("safe(0, 1)", x, o -> o.safe(0, 1), 1);
        Check.due("no route yet: safe(1, 2)", x.safe(1, 2), Check.NONE);
        Check.due("not near: safe(0, 2)", x.safe(0, 2), Check.NONE);
        x.round(3);
        Check.due("safe(0, 1)", x.safe(0, 1), 1);
        Check.due("safe(1, 2)", x.safe(1, 2), 1);
        Check.due("5 is not less than 3: safe(2, 1)", x.safe(2, 1), 0);
        Check.due("safe(2, 3)", x.safe(2, 3), 1);
        Check.due("a leaf offers nothing: safe(3, 2)", x.safe(3, 2), Check.NONE);
        x.offset(0, 3);
        Check.due("3 is not less than 3: safe(0, 1)", x.safe(0, 1), 0);
        x.round(1);
        // the sequence number is 1 now, which is greater than that of the bound
        Check.due("safe(0, 1) with a new sequence number", x.safe(0, 1), 1);
        Check.due("safe(1, 2) without a route", x.safe(1, 2), Check.NONE);
        x.turn(0);
        Check.due("down: safe(0, 1)", x.safe(0, 1), Check.NONE);
        errorsOfOffers(x, (o, from, to) -> o.safe(from, to), "safe");
        oldSequence();
    }

    /** An offer with a smaller sequence number than that of the bound is not feasible, however small it is. */
    private static void oldSequence() {
        MeshParents x = Check.withMesh("M0g0rrrk01001k12001k23001k31001");
        x.turn(3);
        x.round(5);
        x.offset(0, 9);
        x.round(1);
        Check.due("router 1 has lost its route", x.node(1, 3), Check.NONE);
        x.round(1);
        Check.due("router 1 has the new number", x.node(1, 6), 1);
        Check.due("and a greater cost", x.node(1, 7), 10);
        Check.due("router 3 has the old number", x.node(3, 5), 0);
        Check.due("and a smaller cost", x.node(3, 4), 3);
        x.turn(3);
        Check.due("price(3, 1)", x.price(3, 1), 4);
        Check.due("safe(3, 1)", x.safe(3, 1), 0);
    }

    interface Ask {
        int of(MeshParents x, int from, int to);
    }

    private static void errorsOfOffers(MeshParents x, Ask ask, String name) {
        int[][] unknown = {{-1, 1}, {5, 1}, {1, -1}, {1, 5}, {8, 8}, {-1, -1}, {5, 0}, {Integer.MAX_VALUE, 0}};
        for (int[] pair : unknown) {
            Check.refused(name + "(" + pair[0] + ", " + pair[1] + ")", x, o -> ask.of(o, pair[0], pair[1]),
                Check.UNKNOWN);
        }
        int[][] bad = {{0, 0}, {1, 1}, {1, 0}, {3, 0}, {1, 4}, {0, 4}};
        for (int[] pair : bad) {
            Check.refused(name + "(" + pair[0] + ", " + pair[1] + ")", x, o -> ask.of(o, pair[0], pair[1]), Check.BAD);
        }
    }
}
