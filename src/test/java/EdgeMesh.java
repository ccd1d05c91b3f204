/** The paragraph THE MESH, sentence by sentence. */
final class EdgeMesh {
    private EdgeMesh() {
    }

    static void run() {
        nothingAtFirst();
        eightAndNine();
        kinds();
        awake();
        links();
        losses();
        airtime();
        bothDirections();
        upAtFirst();
        numbersAtFirst();
    }

    private static void isNoMesh(String text) {
        Edge.same(() -> Check.withText(text), "mesh() of " + text, x -> x.mesh(), Check.LATE);
    }

    private static void nothingAtFirst() {
        Edge.says("THE MESH", "(none at first)");
        MeshParents x = new MeshParents();
        Check.due("nodes", x.about(0), 0);
        Check.due("links", x.about(1), 0);
        Check.due("node(0, 0)", x.node(0, 0), Check.UNKNOWN);
        Check.due("link(0, 0)", x.link(0, 0), Check.UNKNOWN);
    }

    private static void eightAndNine() {
        Edge.says("THE MESH", "THE MESH has up to eight nodes and up to nine links");
        for (String nodes : new String[] {Edge.GATEWAYS, Edge.ROUTERS, Edge.LEAVES}) {
            MeshParents x = Check.withMesh("M0" + nodes + Edge.NINE);
            Check.due("nodes of " + nodes, x.about(0), 8);
            Check.due("links of " + nodes, x.about(1), 9);
            Check.due("the last link's second node", x.link(8, 1), 4);
            Check.due("a ninth node", x.node(8, 0), Check.UNKNOWN);
            Check.due("a tenth link", x.link(9, 0), Check.UNKNOWN);
            for (String more : new String[] {"g0", "r", "l10", "k56001"}) {
                isNoMesh("M0" + nodes + Edge.NINE + more);
            }
            for (String more : new String[] {"g0", "r", "l10"}) {
                isNoMesh("M0" + nodes + more);
            }
        }
    }

    private static void kinds() {
        Edge.says("THE MESH", "A node is a gateway, with an offset from 0 to 9, a router, or a leaf,"
            + " with a cycle c from 1 to 9 and a phase p from 0 to c - 1.");
        for (int digit = 0; digit <= 9; digit++) {
            Check.due("offset " + digit, Check.withMesh("M0g" + digit).node(0, 1), digit);
            for (int phase = 0; phase <= 9; phase++) {
                String text = "M0l" + digit + phase;
                if (digit >= 1 && phase <= digit - 1) {
                    MeshParents x = Check.withMesh(text);
                    Check.due("the cycle of " + text, x.node(0, 1), digit);
                    Check.due("the phase of " + text, x.node(0, 2), phase);
                } else {
                    isNoMesh(text);
                }
            }
        }
        Check.due("a router", Check.withMesh("M0r").node(0, 0), 1);
    }

    private static void awake() {
        Edge.says("THE MESH", "A leaf is awake in the rounds whose number modulo c is p;"
            + " gateways and routers are always awake.");
        for (int cycle = 1; cycle <= 9; cycle++) {
            for (int phase = 0; phase < cycle; phase++) {
                MeshParents x = Check.withMesh("M0g0rl" + cycle + phase + "k02001k01001");
                for (int number = 0; number < 20; number++) {
                    Check.due("round " + number + " of l" + cycle + phase, x.round(1), number < phase ? 2 : 3);
                }
                x.turn(0);
                boolean isLost = false;
                for (int number = 20; number < 40; number++) {
                    isLost |= number % cycle == phase;
                    Check.due("round " + number + " of l" + cycle + phase, x.round(1), isLost ? 2 : 3);
                }
            }
        }
        MeshParents x = Check.withMesh("M0g0rk01001");
        for (int number = 0; number < 20; number++) {
            Check.due("round " + number + " of a router", x.round(1), number % 2 == 0 ? 2 : 1);
            x.turn(0);
        }
    }

    private static void links() {
        Edge.says("THE MESH", "A link joins two different nodes, and no two nodes have more than one link.");
        for (int a = 0; a < 3; a++) {
            isNoMesh("M0rrrk" + a + a + "001");
            for (int b = 0; b < 3; b++) {
                if (a != b) {
                    MeshParents x = Check.withMesh("M0rrrk" + a + b + "001");
                    Check.due("the first node of " + a + b, x.link(0, 0), a);
                    Check.due("the second node of " + a + b, x.link(0, 1), b);
                    isNoMesh("M0rrrk" + a + b + "001k" + a + b + "001");
                    isNoMesh("M0rrrk" + a + b + "001k" + b + a + "001");
                }
            }
        }
    }

    private static void losses() {
        Edge.says("THE MESH", "It has a loss from its first node to its second one and a loss back,"
            + " 0 to 9 tenths each, and a number of slots, 1 to 9.");
        for (int digit = 0; digit <= 9; digit++) {
            Check.due("loss " + digit, Check.withMesh("M0rrk01" + digit + "01").link(0, 2), digit);
            Check.due("loss back " + digit, Check.withMesh("M0rrk010" + digit + "1").link(0, 3), digit);
            if (digit >= 1) {
                Check.due("slots " + digit, Check.withMesh("M0rrk0100" + digit).link(0, 4), digit);
            }
        }
        isNoMesh("M0rrk01000");
    }

    private static void airtime() {
        Edge.says("THE MESH", "100 * slots / ((10 - loss) * (10 - loss back)), rounded up.");
        // the first six leave no rest, as 300 / 50 and 900 / 1; 100 / 90 and 900 / 81 do, and so on
        String[] digits = {"001", "009", "053", "019", "307", "999", "011", "101", "111", "112", "119", "991", "981",
            "891", "345"};
        int[] airtimes = {1, 9, 6, 10, 10, 900, 2, 2, 2, 3, 12, 100, 50, 50, 12};
        for (int i = 0; i < digits.length; i++) {
            Check.due("airtime of " + digits[i], Check.withMesh("M0rrk01" + digits[i]).link(0, 5), airtimes[i]);
        }
    }

    private static void bothDirections() {
        Edge.says("THE MESH", "Its airtime, in both directions, is");
        // two routers between two gateways, with a link of airtime 24 between them
        MeshParents x = Check.withMesh("M0g0rrg0k01001k12457k23001");
        x.round(1);
        Check.due("link(1, 5)", x.link(1, 5), 24);
        Check.due("price(1, 2)", x.price(1, 2), 25);
        Check.due("price(2, 1)", x.price(2, 1), 25);
    }

    private static void upAtFirst() {
        Edge.says("THE MESH", "A link is up (at first) or down.");
        MeshParents x = Check.withMesh("M0" + Edge.ROUTERS + Edge.NINE);
        for (int link = 0; link < 9; link++) {
            Check.due("link(" + link + ", 6)", x.link(link, 6), 0);
            x.turn(link);
            Check.due("link(" + link + ", 6) when it is down", x.link(link, 6), 1);
        }
    }

    private static void numbersAtFirst() {
        Edge.says("THE MESH", "There are a margin, 0 to 9 (0 at first), a sequence number"
            + " and the number of rounds so far, both 0 at first.");
        MeshParents x = new MeshParents();
        Check.due("the margin", x.about(4), 0);
        Check.due("the sequence number", x.about(5), 0);
        Check.due("the number of rounds", x.about(6), 0);
        for (int margin = 0; margin <= 9; margin++) {
            Check.due("margin " + margin, Check.withMesh("M" + margin).about(4), margin);
        }
    }
}
