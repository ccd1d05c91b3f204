import java.math.BigInteger;

/** The promises 25 to 28, sentence by sentence. */
final class EdgeChances {
    private EdgeChances() {
    }

    static void run() {
        worthAfterTwenty();
        worthOfTheSilent();
        ordersOfGateways();
        meanIncrease();
        upperOrNot();
        shareAnswers();
        chanceAfterTwenty();
        chanceOfLinksThatAreUp();
        chanceWithoutNodes();
        chanceTenths();
        chanceOfNine();
        chanceAnswers();
        seedSets();
        seedAnswers();
        drawnWraps();
        drawnTurns();
        drawnOnlyRandom();
        drawnWithoutLinks();
        drawnTimes();
        drawnAnswers();
    }

    private static void shareIs(String name, MeshParents x, int gateway, int over, int under) {
        Check.due("share(" + gateway + ", true) of " + name, x.share(gateway, true), over);
        Check.due("share(" + gateway + ", false) of " + name, x.share(gateway, false), under);
    }

    private static void worthAfterTwenty() {
        Edge.says("Promise 25", "The worth of a set of gateways is the number of nodes (gateways included) that are"
            + " reached after 20 rounds from now");
        // the leaf has its route again after 20 rounds, or after 21
        shareIs("phase 1", EdgePredictions.late(1, 5), 0, 5, 1);
        shareIs("phase 2", EdgePredictions.late(2, 5), 0, 4, 1);
        shareIs("a gateway alone", EdgePredictions.late(2, 5), 5, 1, 1);
    }

    private static void worthOfTheSilent() {
        Edge.says("Promise 25", "if all other gateways make no offers, and neither they nor nodes whose parents lead to"
            + " them are reached.");
        // a leaf that has gateway 0 for its parent, and sleeps in the next rounds
        MeshParents x = Check.withMesh("M0g0g0l90k02001k12005");
        x.round(1);
        Check.due("the parent", x.node(2, 3), 0);
        // worth: {} 0, {0} 2, {1} 2 (the leaf's parent is silent, it goes to gateway 1), {0, 1} 3
        shareIs("a leaf", x, 0, 3, 2);
        shareIs("a leaf", x, 1, 3, 2);
        x.turn(0);
        x.turn(1);
        shareIs("a leaf without links", x, 0, 1, 1);
        MeshParents ask = Check.withMesh("M0g9g0rk02001k12001");
        ask.round(1);
        // without gateway 1 the router asks, as the 9 of the other is not less than its bound
        Check.due("the bound", ask.node(2, 7), 1);
        shareIs("a router that must ask", ask, 0, 3, 2);
        shareIs("a router that must ask", ask, 1, 3, 2);
    }

    private static void ordersOfGateways() {
        Edge.says("Promise 25", "the gateways come one after the other, in each order with the same probability.");
        shareIs("one gateway", Check.withMesh("M0g0rrrrrrrk01001k12001k23001k34001k45001k56001k67001"), 0, 8, 1);
        MeshParents eight = Check.withMesh("M0" + Edge.GATEWAYS + Edge.NINE);
        for (int gateway = 0; gateway < 8; gateway++) {
            shareIs("eight gateways", eight, gateway, 1, 1);
        }
        // seven gateways, of which two hear the router, or three, .. or seven: a router is shared by them
        String text = "M0g0g0g0g0g0g0g0r";
        for (int near = 1; near <= 7; near++) {
            text += "k" + (near - 1) + "7001";
            MeshParents x = Check.withMesh(text);
            shareIs(near + " of seven", x, 0, near == 1 ? 2 : near + 1, near == 1 ? 1 : near);
            shareIs(near + " of seven", x, 6, near == 7 ? 8 : 1, near == 7 ? 7 : 1);
        }
    }

    private static void meanIncrease() {
        Edge.says("Promise 25", "The value is the mean increase of this worth when the gateway comes.");
        // worth: {0} 3, {1} 2, {0, 1} 4, and one more with gateway 2, which is alone
        MeshParents x = Check.withMesh("M0g0g0g0rrk03001k04001k14001");
        shareIs("3 and 4 - 2", x, 0, 5, 2);
        shareIs("2 and 4 - 3", x, 1, 3, 2);
        shareIs("1 each time", x, 2, 1, 1);
        x.turn(0);
        shareIs("2 and 3 - 2", x, 0, 3, 2);
        x.turn(2);
        shareIs("2 each time", x, 0, 2, 1);
        // leaf 5 prefers gateway 0, and without it asks at once: then the leaves 6 and 7 don't stumble over the new loss.
        // worth: {0} 2, {1} 7, {0, 1} 6
        MeshParents harm = Check.withMesh("M0g0g0rrrl10l92l92k12005k23005k34005k46001k47001k05001k45001");
        harm.round(18);
        harm.lose(0, false, 1);
        shareIs("2 and 6 - 7", harm, 0, 1, 2);
        shareIs("7 and 6 - 2", harm, 1, 11, 2);
    }

    private static void upperOrNot() {
        for (String promise : new String[] {"Promise 25", "Promise 26"}) {
            Edge.says(promise, "`upper`: true for the numerator; false for the denominator");
            MeshParents x = Check.withMesh("M0g0g0rk02001k12001");
            Check.due("share(0, true)", x.share(0, true), 3);
            Check.due("share(0, false)", x.share(0, false), 2);
            Check.due("chance(1, true)", x.chance(1, true), 99);
            Check.due("chance(1, false)", x.chance(1, false), 100);
        }
    }

    private static void shareAnswers() {
        Edge.says("Promise 25",
            "Returns the numerator or denominator; UNKNOWN if there is no such node or it is not a gateway.");
        Edge.same("share(0, true)", x -> x.share(0, true), 2);
        Edge.same("share(0, false)", x -> x.share(0, false), 1);
        for (int gateway : new int[] {-1, 1, 2, 3, 8, 32, Edge.MIN, Edge.MAX}) {
            Edge.same("share(" + gateway + ", true)", x -> x.share(gateway, true), Check.UNKNOWN);
            Edge.same("share(" + gateway + ", false)", x -> x.share(gateway, false), Check.UNKNOWN);
        }
        Edge.same(MeshParents::new, "share(0, true)", x -> x.share(0, true), Check.UNKNOWN);
    }

    private static void chanceIs(String name, MeshParents x, int tenths, int over, int under) {
        Check.due("chance(" + tenths + ", true) of " + name, x.chance(tenths, true), over);
        Check.due("chance(" + tenths + ", false) of " + name, x.chance(tenths, false), under);
    }

    private static void chanceAfterTwenty() {
        Edge.says("Promise 26", "Computes the probability that all nodes are reached after 20 rounds from now,");
        // the leaf has its route again after 20 rounds, or after 21
        chanceIs("phase 1", EdgePredictions.late(1, 5), 0, 1, 1);
        chanceIs("phase 2", EdgePredictions.late(2, 5), 0, 0, 1);
        // the fifth link is not needed: four of them must hold
        chanceIs("phase 1", EdgePredictions.late(1, 5), 1, 6561, 10000);
    }

    private static void chanceOfLinksThatAreUp() {
        Edge.says("Promise 26", "if each link that is up is down from now on with probability x / 10, independently.");
        MeshParents x = Check.withMesh("M0g0rrk01001k02001k12001");
        chanceIs("three links, of which two are enough", x, 1, 243, 250);
        x.turn(2);
        chanceIs("two links", x, 1, 81, 100);
        x.turn(0);
        // a link that is down stays down
        chanceIs("one link", x, 0, 0, 1);
        chanceIs("one link", x, 1, 0, 1);
        MeshParents down = Check.withMesh("M0g0g0k01001");
        down.turn(0);
        chanceIs("no link that is needed", down, 5, 1, 1);
    }

    private static void chanceWithoutNodes() {
        Edge.says("Promise 26", "(Without nodes it is 1.)");
        for (int tenths = 0; tenths <= 10; tenths++) {
            chanceIs("nothing", new MeshParents(), tenths, 1, 1);
            chanceIs("M0", Check.withMesh("M0"), tenths, 1, 1);
        }
    }

    private static void chanceTenths() {
        Edge.says("Promise 26", "`x`: 0 to 10");
        chanceIs("a link that never fails", Check.withMesh("M0g0rk01001"), 0, 1, 1);
        chanceIs("a link that always fails", Check.withMesh("M0g0rk01001"), 10, 0, 1);
        // gateways need no link
        chanceIs("eight gateways", Check.withMesh("M0" + Edge.GATEWAYS + Edge.NINE), 10, 1, 1);
        chanceIs("eight gateways", Check.withMesh("M0" + Edge.GATEWAYS + Edge.NINE), 7, 1, 1);
    }

    private static void chanceOfNine() {
        Edge.says("Promise 26", "if each link that is up is down from now on with probability x / 10");
        MeshParents x = Check.withMesh("M0g0rrrrrrr" + Edge.NINE);
        for (int tenths = 0; tenths <= 10; tenths++) {
            // two triangles, of which two links of three are enough, and three single links
            BigInteger up = BigInteger.valueOf(10 - tenths);
            BigInteger triangle = up.pow(3).add(up.pow(2).multiply(BigInteger.valueOf(3L * tenths)));
            BigInteger over = triangle.pow(2).multiply(up.pow(3));
            BigInteger under = BigInteger.TEN.pow(9);
            BigInteger common = over.gcd(under);
            chanceIs("nine links", x, tenths, over.divide(common).intValueExact(), under.divide(common).intValueExact());
        }
        // seven links that are all needed, with the greatest denominator that they can have
        chanceIs("seven links", Check.withMesh(EdgeRoutes.LONGEST), 9, 1, 10000000);
    }

    private static void chanceAnswers() {
        Edge.says("Promise 26", "Returns the numerator or denominator; BAD if x is out of range.");
        Edge.same(Edge.mesh("M0g0rk01001"), "chance(4, true)", x -> x.chance(4, true), 3);
        Edge.same(Edge.mesh("M0g0rk01001"), "chance(4, false)", x -> x.chance(4, false), 5);
        for (int tenths : new int[] {-1, 11, 256, Edge.MIN, Edge.MAX}) {
            Edge.same("chance(" + tenths + ", true)", x -> x.chance(tenths, true), Check.BAD);
            Edge.same("chance(" + tenths + ", false)", x -> x.chance(tenths, false), Check.BAD);
            Edge.same(MeshParents::new, "chance(" + tenths + ", true)", x -> x.chance(tenths, true), Check.BAD);
        }
    }

    private static void seedSets() {
        Edge.says("Promise 27", "Sets the random number, a long.");
        Edge.same("seed(8) and back", x -> x.seed(8L) + x.seed(77L), 85);
        for (long v : new long[] {0, 1, -1, 1L << 32, Long.MIN_VALUE, Long.MAX_VALUE}) {
            MeshParents x = new MeshParents();
            x.seed(v);
            Check.due("seed(0) after " + v, x.seed(0L), v);
        }
    }

    private static void seedAnswers() {
        Edge.says("Promise 27", "Returns the previous one.");
        MeshParents x = new MeshParents();
        Check.due("seed(MAX)", x.seed(Long.MAX_VALUE), 0);
        Check.due("seed(MIN)", x.seed(Long.MIN_VALUE), Long.MAX_VALUE);
        Check.due("seed(-9)", x.seed(-9L), Long.MIN_VALUE);
        Check.due("seed(-9)", x.seed(-9L), -9);
        Check.due("about(9)", x.about(9), 0);
    }

    /** The random number after this one, by whole numbers that do not wrap. */
    private static long next(long x) {
        return BigInteger.valueOf(x).multiply(new BigInteger("6364136223846793005"))
            .add(new BigInteger("1442695040888963407")).longValue();
    }

    private static void drawnWraps() {
        Edge.says("Promise 28", "Each time the random number x becomes x * 6364136223846793005L + 1442695040888963407L"
            + " (it wraps), and v is (int) (x >>> 33).");
        for (long seed : new long[] {0, 1, -1, 5, Long.MIN_VALUE, Long.MAX_VALUE, 1L << 33, -987654321987654321L}) {
            MeshParents x = Check.withMesh("M0g0rk01001");
            x.seed(seed);
            x.drawn(1);
            Check.due("the number after " + seed, x.seed(seed), next(seed));
            x.drawn(2);
            Check.due("the one after that", x.seed(0L), next(next(seed)));
        }
    }

    /** A mesh with this text after 9 rounds; nodes and links are all up and reached then. */
    private static MeshParents settled(String text) {
        MeshParents x = Check.withMesh(text);
        x.round(9);
        return x;
    }

    private static void drawnTurns() {
        Edge.says("Promise 28", "If (v / 16) modulo 2 is 0, link v modulo (number of links) is turned as by turn()."
            + " Then a round passes.");
        String[] texts = {"M0g0rk01001", "M0g0rrk01001k02001", "M0g0rrrrrrr" + Edge.NINE,
            "M2g0g3rrl20k02001k12001k23001k34001k04009"};
        for (String text : texts) {
            for (long seed = -40; seed <= 40; seed++) {
                MeshParents x = settled(text);
                MeshParents y = settled(text);
                long random = seed * 1234567890123456789L;
                x.seed(random);
                int missed = 0;
                for (int n = 1; n <= 4; n++) {
                    random = next(random);
                    int v = (int) (random >>> 33);
                    if ((v / 16) % 2 == 0) {
                        y.turn(v % y.about(1));
                    }
                    missed += y.about(0) - y.round(1);
                }
                Check.due("drawn(4) of " + text + " from " + seed, x.drawn(4), missed);
            }
        }
    }

    private static void drawnOnlyRandom() {
        Edge.says("Promise 28", "Only the random number changes.");
        Edge.same("drawn(20) and the number set back", x -> {
            x.drawn(20);
            x.drawn(1);
            x.seed(77L);
            return 0;
        }, 0);
        Edge.same(Edge::withSixObservations, "drawn(20) and the number set back", x -> {
            x.drawn(20);
            return x.seed(77L) == 77 ? 1 : 0;
        }, 0);
    }

    private static void drawnWithoutLinks() {
        Edge.says("Promise 28", "If there are no links, only the random number is drawn, and the result is 0.");
        for (String text : new String[] {"M0", "M0r", "M0" + Edge.ROUTERS, "M0g0rl10"}) {
            MeshParents x = Check.withMesh(text);
            Check.due("drawn(20) of " + text, x.drawn(20), 0);
            long random = 0;
            for (int n = 0; n < 20; n++) {
                random = next(random);
            }
            Check.due("the number", x.seed(0L), random);
            Check.due("drawn(1) of " + text, x.drawn(1), 0);
            Check.due("the number", x.seed(0L), next(0));
            Check.due("about(6)", x.about(6), 0);
        }
        MeshParents one = Check.withMesh("M0rrk01001");
        Check.due("one link, and two nodes that are not reached", one.drawn(20), 40);
    }

    private static void drawnTimes() {
        Edge.says("Promise 28", "`m`: how many times, 1 to 20");
        for (int m = 1; m <= 20; m++) {
            Check.due("drawn(" + m + ")", Check.withMesh("M0" + Edge.ROUTERS + Edge.NINE).drawn(m), 8 * m);
        }
        for (int m : new int[] {-1, 0, 21, 256, Edge.MIN, Edge.MAX}) {
            Edge.same("drawn(" + m + ")", x -> x.drawn(m), Check.BAD);
            Edge.same(MeshParents::new, "drawn(" + m + ")", x -> x.drawn(m), Check.BAD);
        }
    }

    private static void drawnAnswers() {
        Edge.says("Promise 28", "Returns the sum, over all these rounds, of the number of nodes that are not reached"
            + " after the round; BAD if m is out of range.");
        Check.due("gateways are reached", Check.withMesh("M0" + Edge.GATEWAYS + Edge.NINE).drawn(20), 0);
        Check.due("two nodes without a way", Check.withMesh("M0g0l98rk12001").drawn(20), 40);
        // found by a search: with these numbers the link is turned none of twenty times, or each time
        long never = 1568629L;
        long always = 63535L;
        for (int m = 1; m <= 20; m++) {
            MeshParents leaf = Check.withMesh("M0g0l98k01001");
            leaf.seed(never);
            Check.due("drawn(" + m + ") of a leaf that is awake in the ninth round", leaf.drawn(m), Math.min(m, 8));
            MeshParents router = Check.withMesh("M0g0rk01001");
            router.seed(always);
            Check.due("drawn(" + m + ") of a link that goes down first", router.drawn(m), (m + 1) / 2);
        }
    }
}
