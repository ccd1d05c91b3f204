/** The paragraph TEXTS and the promises 1 to 5, sentence by sentence. */
final class EdgeTexts {
    private static final String DIGITS = "0123456789";

    private EdgeTexts() {
    }

    static void run() {
        hundredCharacters();
        partsInAnyOrder();
        whatPartsMean();
        numberedTogether();
        standBefore();
        firstWrongCharacter();
        whateverItsLength();
        ninthNode();
        tenthLink();
        allPairsLinked();
        firstNodeIsFull();
        secondNodeIsTaken();
        endsTooEarly();
        newObject();
        letters();
        writeAnswers();
        wipeEmpties();
        wipeAnswers();
        faultAnswers();
        meshAsAtFirst();
        meshAfterAnother();
        whatStays();
        meshAnswers();
    }

    /** The letters with which the text can go on, of all that there are: each other one is the error position. */
    private static void goesOn(String text, String letters) {
        for (int letter = 0; letter <= 255; letter++) {
            MeshParents x = Check.withText(text);
            x.write(letter);
            boolean isRight = letters.indexOf(letter) >= 0;
            int fault = x.fault();
            Check.holds("letter " + letter + " after " + text + ": fault() answered " + fault,
                isRight ? fault == Check.NONE || fault == text.length() + 1 : fault == text.length());
        }
    }

    private static void faultIs(String text, int want) {
        Edge.same(() -> Check.withText(text), "fault() of " + text, x -> x.fault(), want);
        if (want != Check.NONE) {
            Edge.same(() -> Check.withText(text), "mesh() of " + text, x -> x.mesh(), Check.LATE);
        }
    }

    private static void hundredCharacters() {
        Edge.says("TEXTS", "A mesh can be read from a text of at most 100 characters, which is empty at first.");
        MeshParents x = new MeshParents();
        Check.due("about(11)", x.about(11), 0);
        Check.writeAll(x, "M".repeat(99));
        Check.due("about(11)", x.about(11), 99);
        Check.due("write(0)", x.write(0), 100);
        Check.due("write(0)", x.write(0), Check.FULL);
        Check.due("about(11)", x.about(11), 100);
    }

    private static void partsInAnyOrder() {
        Edge.says("TEXTS", "It consists of M, a digit for the margin, and any number of parts in any order,"
            + " without other characters:");
        faultIs("M0", Check.NONE);
        faultIs("M9", Check.NONE);
        String[] parts = {"g1", "r", "l21"};
        for (int i = 0; i < 27; i++) {
            faultIs("M0" + parts[i / 9] + parts[i / 3 % 3] + "k01001" + parts[i % 3] + "k20001", Check.NONE);
        }
        faultIs(" M0", 0);
        faultIs("M0 r", 2);
        faultIs("M0r ", 3);
        faultIs("M0r\n", 3);
        faultIs("M0rM0r", 3);
    }

    private static void whatPartsMean() {
        Edge.says("TEXTS", "g and a digit, a gateway with this offset; r, a router; l and the digits c and p, a leaf;"
            + " k and the digits a, b, x, y and s, a link from node a to node b with the loss x, the loss back y,"
            + " and s slots.");
        MeshParents x = Check.withMesh("M0g9rl98g0k30091k12905");
        int[][] nodes = {{0, 9, 0}, {1, 0, 0}, {2, 9, 8}, {0, 0, 0}};
        for (int node = 0; node < 4; node++) {
            for (int what = 0; what < 3; what++) {
                Check.due("node(" + node + ", " + what + ")", x.node(node, what), nodes[node][what]);
            }
        }
        int[][] links = {{3, 0, 0, 9, 1}, {1, 2, 9, 0, 5}};
        for (int link = 0; link < 2; link++) {
            for (int what = 0; what < 5; what++) {
                Check.due("link(" + link + ", " + what + ")", x.link(link, what), links[link][what]);
            }
        }
    }

    private static void numberedTogether() {
        Edge.says("TEXTS", "Nodes of all kinds are numbered together in their order.");
        MeshParents x = Check.withMesh("M0l10rg0k01001g0rl10k52001l10r");
        int[] kinds = {2, 1, 0, 0, 1, 2, 2, 1};
        for (int node = 0; node < 8; node++) {
            Check.due("node(" + node + ", 0)", x.node(node, 0), kinds[node]);
        }
        Check.due("link(1, 0)", x.link(1, 0), 5);
    }

    private static void standBefore() {
        Edge.says("TEXTS", "a and b must stand before in the text and have no link yet.");
        faultIs("M0k01001rr", 2);
        faultIs("M0rk01001r", 3);
        faultIs("M0rrk02001r", 6);
        faultIs("M0rrk20001r", 5);
        faultIs("M0rrrk02001", Check.NONE);
        faultIs("M0rrrk02001k02001", 13);
        faultIs("M0rrrk02001k20001", 13);
        faultIs("M0rrrk02001k21001", Check.NONE);
    }

    private static void firstWrongCharacter() {
        Edge.says("TEXTS", "The error position is the index of the first character with which,"
            + " after the characters before it, no mesh text continues, whatever its length would be;");
        goesOn("", "M");
        goesOn("M", DIGITS);
        goesOn("M5", "grl");
        goesOn("M0g", DIGITS);
        goesOn("M0g0", "grl");
        goesOn("M0r", "grl");
        goesOn("M0l", "123456789");
        for (int cycle = 1; cycle <= 9; cycle++) {
            goesOn("M0l" + cycle, DIGITS.substring(0, cycle));
        }
        goesOn("M0l10", "grl");
        goesOn("M0rr", "grlk");
        goesOn("M0rrk", "01");
        goesOn("M0rrk0", "1");
        goesOn("M0rrk1", "0");
        goesOn("M0rrk01", DIGITS);
        goesOn("M0rrk019", DIGITS);
        goesOn("M0rrk0199", "123456789");
        goesOn("M0" + Edge.ROUTERS, "k");
        goesOn("M0" + Edge.ROUTERS + "k", "01234567");
        goesOn("M0" + Edge.ROUTERS + "k7", "0123456");
        // only the first of two counts
        faultIs("M0x!", 2);
        faultIs("m0x!", 0);
        faultIs("M0rrk00", 6);
        faultIs("M0rrk00!", 6);
    }

    private static void whateverItsLength() {
        Edge.says("TEXTS", "whatever its length would be");
        // the longest mesh text: nothing that could follow it is right, in a text of 100 characters either
        String longest = "M0" + Edge.LEAVES + Edge.NINE;
        Check.due("its length", longest.length(), 80);
        faultIs(longest, Check.NONE);
        faultIs(longest + "k".repeat(20), 80);
        faultIs("M".repeat(100), 1);
        faultIs(longest.substring(0, 79) + "0".repeat(21), 79);
        // of a text that was cut off at 100 characters nothing is told but where it went wrong
        faultIs("M0r" + " ".repeat(97), 3);
    }

    private static void ninthNode() {
        Edge.says("TEXTS", "this is also so for the letter of a ninth node,");
        for (String nodes : new String[] {Edge.GATEWAYS, Edge.ROUTERS, Edge.LEAVES, "g0rl10g0rl10g0r"}) {
            goesOn("M0" + nodes, "k");
            goesOn("M0" + nodes + "k01001", "k");
        }
        goesOn("M0rrrrrrr", "grlk");
        faultIs("M0rrrrrrrk01001rg", 16);
    }

    private static void tenthLink() {
        Edge.says("TEXTS", "a tenth k,");
        String five = "M0rrrrrk01001k02001k03001k04001k12001k13001k14001k23001";
        goesOn(five, "grlk");
        // the tenth pair has no link yet, and there could be more nodes
        goesOn(five + "k24001", "grl");
        goesOn(five + "k24001rrr", "");
        goesOn("M0" + Edge.ROUTERS + Edge.NINE, "");
    }

    private static void allPairsLinked() {
        Edge.says("TEXTS", "a k if each two nodes have a link already,");
        goesOn("M0", "grl");
        goesOn("M0r", "grl");
        goesOn("M0rrk10001", "grl");
        goesOn("M0rrrk01001k02001", "grlk");
        goesOn("M0rrrk01001k02001k12001", "grl");
        goesOn("M0rrrrk01001k02001k12001k03001k13001", "grlk");
        goesOn("M0rrrrk01001k02001k12001k03001k13001k32001", "grl");
        goesOn("M0rrrrk01001k02001k12001k03001k13001k32001r", "grlk");
    }

    private static void firstNodeIsFull() {
        Edge.says("TEXTS", "for a digit a that is a node that has a link to each other node,");
        goesOn("M0rrrk01001k02001k", "12");
        goesOn("M0rrrk10001k12001k", "02");
        goesOn("M0rrrrk20001k12001k23001k", "013");
        goesOn("M0rrrk01001k", "012");
        goesOn("M0" + Edge.ROUTERS + Edge.NINE.substring(0, 48) + "k", "1234567");
        faultIs("M0rrrk01001k02001k0", 18);
        faultIs("M0rrrk01001k02001k01", 18);
    }

    private static void secondNodeIsTaken() {
        Edge.says("TEXTS", "and a digit b that is a or a node that has a link with a.");
        goesOn("M0rrrrk0", "123");
        goesOn("M0rrrrk3", "012");
        goesOn("M0rrrrk01001k0", "23");
        goesOn("M0rrrrk01001k1", "23");
        goesOn("M0rrrrk01001k2", "013");
        goesOn("M0rrrrk01001k02001k0", "3");
        goesOn("M0" + Edge.ROUTERS + Edge.NINE.substring(0, 48) + "k1", "34567");
    }

    private static void endsTooEarly() {
        Edge.says("TEXTS", "It is the length of the text if the text just ends too early.");
        String[] parts = {"M3", "g0", "r", "l98", "k01999", "g9", "k31001", "r", "r", "l10", "k56121", "l20"};
        String text = "";
        for (String part : parts) {
            for (int length = 0; length < part.length(); length++) {
                boolean isWhole = length == 0 && !text.isEmpty();
                String start = text + part.substring(0, length);
                faultIs(start, isWhole ? Check.NONE : start.length());
            }
            text += part;
        }
        faultIs(text, Check.NONE);
        Check.due("nodes", Check.withMesh(text).about(0), 8);
    }

    private static void newObject() {
        Edge.says("Promise 1", "Creates an empty mesh; the text is empty, there are no observations,"
            + " nothing is saved, and the random number is 0.");
        MeshParents x = new MeshParents();
        for (int what = 0; what <= 11; what++) {
            Check.due("about(" + what + ")", x.about(what), 0);
        }
        Check.due("wipe()", x.wipe(), 0);
        Check.due("unsee()", x.unsee(), 0);
        Check.due("undo()", x.undo(), Check.LATE);
        Check.due("again(0)", x.again(0), Check.LATE);
        Check.due("again(1)", x.again(1), Check.LATE);
        Check.due("seed(1)", x.seed(1L), 0);
        // another object knows nothing of this one
        x.write('M');
        x.margin(7);
        x.keep(0);
        Check.holds("a second object is not new", Edge.everything(new MeshParents())
            .equals(Edge.everything(new MeshParents())) && new MeshParents().about(11) == 0
            && new MeshParents().about(4) == 0 && new MeshParents().again(0) == Check.LATE
            && new MeshParents().seed(0L) == 0);
    }

    private static void letters() {
        Edge.says("Promise 2", "`letter`: its code, 0 to 255");
        MeshParents x = new MeshParents();
        Check.due("write(0)", x.write(0), 1);
        Check.due("write(255)", x.write(255), 2);
        for (int letter : new int[] {-1, 256, 256 + 'M', -256 + 'M', Edge.MIN, Edge.MAX}) {
            Edge.same("write(" + letter + ")", o -> o.write(letter), Check.BAD);
        }
        // the letter itself is kept, not one that shares its low bits
        faultIs("" + (char) ('M' + 128), 0);
        faultIs("M0" + (char) ('r' + 128), 2);
    }

    private static void writeAnswers() {
        Edge.says("Promise 2", "Returns how many characters the text has then; BAD if letter is out of range;"
            + " FULL if it has 100 characters.");
        MeshParents x = new MeshParents();
        for (int n = 1; n <= 100; n++) {
            Check.due("write " + n, x.write(n), n);
        }
        for (int n = 0; n < 3; n++) {
            Check.due("write 101", x.write('M'), Check.FULL);
            Check.due("write(-1)", x.write(-1), Check.BAD);
        }
        Edge.same(() -> Check.withText("M0" + "r".repeat(98)), "write('r')", o -> o.write('r'), Check.FULL);
        Check.due("write 100", Check.withText("M".repeat(99)).write('M'), 100);
    }

    private static void wipeEmpties() {
        Edge.says("Promise 3", "Empties the text.");
        MeshParents x = Check.withMesh("M0g0rk01001");
        x.wipe();
        Check.due("about(11)", x.about(11), 0);
        Check.due("fault()", x.fault(), 0);
        Check.due("the mesh stays", x.about(0), 2);
        // nothing of the old text is left behind a shorter one
        Check.writeAll(x, "M0g");
        Check.due("fault()", x.fault(), 3);
        Check.writeAll(x, "1");
        Check.due("mesh()", x.mesh(), 1);
    }

    private static void wipeAnswers() {
        Edge.says("Promise 3", "Returns how many characters it had.");
        MeshParents x = new MeshParents();
        Check.due("wipe() of an empty text", x.wipe(), 0);
        x.write(0);
        Check.due("wipe() of one character", x.wipe(), 1);
        Check.writeAll(x, "x".repeat(100));
        Check.due("wipe() of a full text", x.wipe(), 100);
        Check.due("wipe() once more", x.wipe(), 0);
        Check.due("write(77)", x.write(77), 1);
    }

    private static void faultAnswers() {
        Edge.says("Promise 4", "Returns the error position, or NONE if the text is a mesh text.");
        faultIs("", 0);
        faultIs("M", 1);
        faultIs("M0", Check.NONE);
        faultIs("M0" + Edge.LEAVES + Edge.NINE, Check.NONE);
        faultIs("M0" + Edge.LEAVES + Edge.NINE + "g", 80);
        Edge.same("fault()", x -> x.fault(), Check.NONE);
    }

    private static void meshAsAtFirst() {
        Edge.says("Promise 5", "No node has a parent, bounds are as at first, all links are up,"
            + " the sequence number and the number of rounds are 0, no change is kept, and nothing is saved then.");
        MeshParents x = Check.withMesh("M3g1rl20k01102k12003");
        x.round(3);
        x.offset(0, 9);
        x.lose(1, true, 9);
        x.round(3);
        x.turn(0);
        x.turn(1);
        x.margin(9);
        x.keep(0);
        x.keep(1);
        Check.due("the sequence number before", x.about(5), 1);
        Check.due("mesh()", x.mesh(), 3);
        for (int node = 0; node < 3; node++) {
            for (int what = 3; what <= 5; what++) {
                Check.due("node(" + node + ", " + what + ")", x.node(node, what), Check.NONE);
            }
            Check.due("node(" + node + ", 6)", x.node(node, 6), node == 0 ? Check.NONE : 0);
            Check.due("node(" + node + ", 7)", x.node(node, 7), node == 0 ? Check.NONE : 9999);
        }
        Check.due("links that are down", x.about(8), 0);
        Check.due("the sequence number", x.about(5), 0);
        Check.due("the number of rounds", x.about(6), 0);
        Check.due("the margin of the text", x.about(4), 3);
        Check.due("the offset of the text", x.node(0, 1), 1);
        Check.due("the loss of the text", x.link(1, 3), 0);
        Check.due("changes", x.about(9), 0);
        Check.due("undo()", x.undo(), Check.LATE);
        Check.due("again(0)", x.again(0), Check.LATE);
        Check.due("again(1)", x.again(1), Check.LATE);
    }

    private static void meshAfterAnother() {
        Edge.says("Promise 5", "Reads the mesh from the text.");
        // whatever was read, predicted and saved before, the object is like a new one that reads this text
        String[] texts = {"M5g9l98g7rk01999k03999k23999", "M0rrrr", "M3l10l21g1g2k30119", "M0", "M1g0l10l92rk01001k13001"};
        for (String before : texts) {
            for (String text : texts) {
                MeshParents x = Check.withMesh(before);
                x.round(9);
                x.offset(0, 9);
                x.offset(2, 9);
                x.turn(1);
                x.ahead(99, 0, 3);
                x.chance(0, true);
                x.keep(0);
                x.round(40);
                x.even(0);
                x.wipe();
                Check.writeAll(x, text);
                Check.due("mesh()", x.mesh(), Check.withText(text).mesh());
                Check.holds(text + " after " + before + " is another mesh",
                    Edge.everything(x).equals(Edge.everything(Check.withMesh(text))));
            }
        }
    }

    private static void whatStays() {
        Edge.says("Promise 5", "The text, the observations and the random number stay.");
        MeshParents x = Check.withMesh("M0g0rk01001");
        x.round(1);
        x.see(1, 0, 1);
        x.see(1, 20, 1);
        x.seed(-5L);
        Check.due("mesh()", x.mesh(), 2);
        Check.due("about(11)", x.about(11), 11);
        Check.due("fault()", x.fault(), Check.NONE);
        Check.due("about(10)", x.about(10), 2);
        // after the first round of the mesh the observation for now would be true
        Check.due("which()", x.which(), 0);
        Check.due("seed(0)", x.seed(0L), -5);
        Check.due("mesh() of the same text", x.mesh(), 2);
    }

    private static void meshAnswers() {
        Edge.says("Promise 5", "Returns the number of nodes; LATE if the text is not a mesh text.");
        MeshParents x = Check.withText("M0");
        Check.due("mesh() without nodes", x.mesh(), 0);
        Check.writeAll(x, Edge.LEAVES);
        Check.due("mesh() of eight", x.mesh(), 8);
        Edge.same(() -> Check.withText(""), "mesh() of nothing", o -> o.mesh(), Check.LATE);
        Edge.same(() -> {
            MeshParents wrong = Edge.rich();
            wrong.write('x');
            return wrong;
        }, "mesh() of a wrong text", o -> o.mesh(), Check.LATE);
        Edge.same(() -> {
            MeshParents early = Edge.rich();
            early.write('g');
            return early;
        }, "mesh() of a text that ends too early", o -> o.mesh(), Check.LATE);
    }
}
