import java.util.List;

/** The promises 17 to 21, sentence by sentence. */
final class EdgePredictions {
    private static final String LINE = "M0g0rrl20g0k01001k12001k23001";
    /** Found by long searches: no other mesh took more rounds until its parents stayed the same. */
    private static final String SLOW = "M7rg1l91rrrl95rk53784k67013k25897k70507k54195k03373k43857k27281k15627";
    /** The same for the way of a message. */
    private static final String FAR = "M3g8rrrrrl95rk17139k60584k26127k53826k32735k16962k10827k45498k74839";

    private EdgePredictions() {
    }

    static void run() {
        aheadRounds();
        aheadWhat();
        aheadAnswers();
        stillTenTimes();
        stillAnswers();
        wordMoves();
        wordAnswers();
        evenAfterTwenty();
        evenOffsets();
        evenSmallest();
        evenAnswers();
        judgeEvents();
        judgeLastDigits();
        judgeRounds();
        judgeTurns();
        judgeOffsets();
        judgeReached();
        judgeParents();
        judgeLoads();
        judgeNumbers();
        judgeOthers();
        judgeCarriesOut();
        judgeDigits();
        judgeAnswers();
    }

    /**
     * A gateway, three routers and a leaf (node 4) in a row, in their nineteenth round, when the gateway's offset has just
     * grown. The leaf hears the greater cost when it is awake next but one, loses its route for nine rounds, and has it
     * again after 20 rounds from now (phase 1) or after 21 (phase 2).
     */
    static MeshParents late(int phase, int offset) {
        MeshParents x = Check.withMesh("M0g0rrrl9" + phase + "g0k01902k12902k23902k34001k50001");
        x.round(18);
        x.offset(0, offset);
        return x;
    }

    private static void aheadRounds() {
        Edge.says("Promise 17", "`n`: the number of rounds, 0 to 99");
        MeshParents x = Check.withMesh(EdgeRoutes.LONGEST);
        x.turn(6);
        x.round(7);
        x.turn(6);
        Check.due("ahead(0, 7, 3)", x.ahead(0, 7, 3), Check.NONE);
        Check.due("ahead(1, 7, 3)", x.ahead(1, 7, 3), 6);
        Check.due("ahead(99, 7, 4)", x.ahead(99, 7, 4), 6309);
        for (int n : new int[] {-1, 100, 256, Edge.MIN, Edge.MAX}) {
            Edge.same("ahead(" + n + ", 0, 3)", o -> o.ahead(n, 0, 3), Check.BAD);
        }
        for (int phase = 1; phase <= 2; phase++) {
            MeshParents y = late(phase, 5);
            for (int n = 0; n <= 22; n++) {
                Check.due("ahead(" + n + ", 4, 3) of phase " + phase, y.ahead(n, 4, 3),
                    n <= 9 + phase || n >= 19 + phase ? 3 : Check.NONE);
            }
        }
    }

    private static void aheadWhat() {
        Edge.says("Promise 17", "`what`: 3 to 9, as for node()");
        for (int what : new int[] {-1, 0, 1, 2, 10, 256, Edge.MIN, Edge.MAX}) {
            Edge.same("ahead(1, 0, " + what + ")", o -> o.ahead(1, 0, what), Check.BAD);
            Edge.same("ahead(0, 2, " + what + ")", o -> o.ahead(0, 2, what), Check.BAD);
        }
        MeshParents x = Check.withMesh(LINE);
        x.round(1);
        MeshParents later = Check.withMesh(LINE);
        later.round(4);
        for (int node = 0; node < 5; node++) {
            for (int what = 3; what <= 9; what++) {
                Check.due("ahead(3, " + node + ", " + what + ")", x.ahead(3, node, what), later.node(node, what));
                Check.due("ahead(0, " + node + ", " + what + ")", x.ahead(0, node, what), x.node(node, what));
            }
        }
    }

    private static void aheadAnswers() {
        Edge.says("Promise 17",
            "Returns the property; UNKNOWN if there is no such node; BAD if n or what is out of range.");
        Edge.same("ahead(0, 1, 3)", x -> x.ahead(0, 1, 3), 0);
        Edge.same("ahead(99, 0, 9)", x -> x.ahead(99, 0, 9), 1);
        for (int node : new int[] {-1, 3, 8, Edge.MIN, Edge.MAX}) {
            Edge.same("ahead(0, " + node + ", 3)", x -> x.ahead(0, node, 3), Check.UNKNOWN);
        }
        Edge.same(MeshParents::new, "ahead(0, 0, 3)", x -> x.ahead(0, 0, 3), Check.UNKNOWN);
    }

    private static void stillTenTimes() {
        Edge.says("Promise 18", "Finds the smallest n, 0 to 40, such that all parents are the same after n, n + 1,"
            + " and so on up to n + 9 rounds without other changes.");
        // the leaf hears that its link is down in the ninth round from now: after 9 rounds it has another parent
        MeshParents nine = Check.withMesh("M0g0l90k01001");
        nine.round(1);
        nine.turn(0);
        Check.due("ahead(8, 1, 3)", nine.ahead(8, 1, 3), 0);
        Check.due("ahead(9, 1, 3)", nine.ahead(9, 1, 3), Check.NONE);
        Check.due("still() with a parent lost after 9", nine.still(), 9);
        // here it loses it after 10 rounds only, and it is another one after 19: the first ten are the same
        MeshParents ten = Check.withMesh("M0g0rl90k01902k12001");
        ten.round(18);
        ten.offset(0, 1);
        Check.due("ahead(9, 2, 3)", ten.ahead(9, 2, 3), 1);
        Check.due("ahead(10, 2, 3)", ten.ahead(10, 2, 3), Check.NONE);
        Check.due("still() with a parent lost after 10", ten.still(), 0);
        // each parent counts: that of node 0, and also when two nodes change places
        MeshParents first = Check.withMesh("M0l90g0k01001");
        first.round(1);
        first.turn(0);
        Check.due("still() with node 0", first.still(), 9);
        MeshParents places = Check.withMesh("M0g0g0rrk02001k12002k03002k13001");
        places.round(1);
        places.lose(0, false, 9);
        places.lose(3, false, 9);
        Check.due("ahead(0, 2, 3)", places.ahead(0, 2, 3), 0);
        Check.due("ahead(0, 3, 3)", places.ahead(0, 3, 3), 1);
        Check.due("ahead(1, 2, 3)", places.ahead(1, 2, 3), 1);
        Check.due("ahead(1, 3, 3)", places.ahead(1, 3, 3), 0);
        Check.due("still() with two that change places", places.still(), 1);
        // only parents count, not costs
        MeshParents costs = Check.withMesh("M0g0rk01001");
        costs.round(1);
        costs.lose(0, true, 9);
        Check.due("still() with another cost", costs.still(), 0);
    }

    private static int stillByHand(MeshParents x) {
        List<List<Integer>> parents = Edge.parentsFromNow(x, 49);
        for (int n = 0; n <= 40; n++) {
            boolean isSame = true;
            for (int later = 1; later <= 9; later++) {
                isSame &= parents.get(n).equals(parents.get(n + later));
            }
            if (isSame) {
                return n;
            }
        }
        return Check.NONE;
    }

    private static MeshParents slow() {
        MeshParents x = Check.withMesh(SLOW);
        x.round(19);
        x.lose(6, false, 0);
        x.lose(8, false, 7);
        x.turn(0);
        x.offset(2, 5);
        x.margin(3);
        return x;
    }

    private static void stillAnswers() {
        Edge.says("Promise 18", "Returns n, or NONE if there is none.");
        Edge.same(MeshParents::new, "still()", x -> x.still(), 0);
        Check.due("still() of eight gateways", Check.withMesh("M0" + Edge.GATEWAYS + Edge.NINE).still(), 0);
        Check.due("still() of eight routers", Check.withMesh("M0" + Edge.ROUTERS + Edge.NINE).still(), 0);
        // no mesh was found that goes on for 41 rounds; this is the slowest that was
        Check.due("still() by hand", stillByHand(slow()), 28);
        Check.due("still()", slow().still(), 28);
        for (int n = 0; n <= 9; n++) {
            MeshParents x = late(1, 5);
            MeshParents y = late(1, 5);
            x.round(n + 1);
            y.round(n + 1);
            Check.due("still() after " + n, x.still(), stillByHand(y));
        }
    }

    private static void wordMoves() {
        Edge.says("Promise 19", "It is at the node now. After each round, if the node where it is is no gateway, was"
            + " awake in this round, and has a parent after it, the message goes to this parent.");
        MeshParents x = Check.withMesh("M0g0rrl20k01001k12001k23001");
        // the routers have a parent after rounds 1 and 2 (numbers 0 and 1), the leaf after number 2
        Check.due("word(1)", x.word(1), 1);
        Check.due("word(2)", x.word(2), 3);
        Check.due("word(3)", x.word(3), 5);
        x.round(3);
        // the leaf has a parent, but is not awake in round number 3
        Check.due("word(3) of a leaf that sleeps", x.word(3), 4);
        x.round(1);
        Check.due("word(3) of a leaf that is awake", x.word(3), 3);
        // it loses its parent in this round
        x.turn(0);
        Check.due("word(1) that has no parent after the round", x.word(1), Check.NONE);
    }

    private static int wordByHand(MeshParents x, int node) {
        int at = node;
        for (int n = 0; n <= 60; n++) {
            if (x.node(at, 0) == 0) {
                return n;
            }
            boolean wasAwake = x.node(at, 0) == 1 || x.about(6) % x.node(at, 1) == x.node(at, 2);
            x.round(1);
            if (wasAwake && x.node(at, 3) != Check.NONE) {
                at = x.node(at, 3);
            }
        }
        return Check.NONE;
    }

    private static MeshParents far() {
        MeshParents x = Check.withMesh(FAR);
        x.lose(6, false, 3);
        x.round(26);
        x.turn(6);
        x.offset(5, 3);
        x.offset(1, 2);
        x.round(19);
        x.turn(6);
        x.offset(0, 1);
        x.turn(1);
        x.turn(5);
        return x;
    }

    private static void wordAnswers() {
        Edge.says("Promise 19", "Returns the smallest number of rounds, 0 to 60, after which it is at a gateway;"
            + " NONE if there is none; UNKNOWN if there is no such node.");
        Edge.same("word(0)", x -> x.word(0), 0);
        Edge.same("word(2)", x -> x.word(2), Check.NONE);
        for (int node : new int[] {-1, 3, 8, Edge.MIN, Edge.MAX}) {
            Edge.same("word(" + node + ")", x -> x.word(node), Check.UNKNOWN);
        }
        Edge.same(MeshParents::new, "word(0)", x -> x.word(0), Check.UNKNOWN);
        MeshParents sleepy = Check.withMesh("M0g0l98k01001");
        Check.due("word(1) of a leaf", sleepy.word(1), 9);
        sleepy.round(9);
        Check.due("word(1) of a leaf that was awake just now", sleepy.word(1), 9);
        // no longer way was found
        Check.due("word(6) by hand", wordByHand(far(), 6), 30);
        Check.due("word(6)", far().word(6), 30);
    }

    private static void evenAfterTwenty() {
        Edge.says("Promise 20", "from now on and with everything else as it is, the difference of the greatest and the"
            + " smallest load of a gateway after 20 rounds is smallest;");
        // with another offset the leaf is no load of gateway 0 from 11 to 19 rounds (phase 1) or 12 to 20 (phase 2)
        Check.due("even(0) of phase 1", late(1, 0).even(0), 0);
        Check.due("even(0) of phase 2", late(2, 0).even(0), 1);
        Check.due("even(5), which has no load whatever its offset is", late(2, 0).even(5), 0);
        // from 5 on router 4 goes to gateway 2: the greatest load is 2 before and then, the smallest 0 and then 1
        MeshParents three = Check.withMesh("M0g0g0g0rrrrk03001k04001k24005k15001k16001");
        Check.due("even(0) of three gateways", three.even(0), 5);
    }

    private static void evenOffsets() {
        Edge.says("Promise 20", "Finds the offset, 0 to 9, of a gateway with which,");
        MeshParents x = Check.withMesh("M0g0g0rrk02001k12009k03001k13005");
        // router 3 goes to gateway 1 from 5 on (5 + 1 is more than 5), router 2 from 9 on: each has one with 5 to 8
        Check.due("even(0) of 5 to 8", x.even(0), 5);
        MeshParents both = Check.withMesh("M0g0g0rrk02001k12009k03002k13019");
        // both go with 9, as 9 + 1 is more than 9, and 9 + 2 more than 10: it is never even
        Check.due("the airtime", both.link(3, 5), 10);
        Check.due("even(0) of both at once", both.even(0), 0);
        MeshParents only = Check.withMesh("M0g0g0rrk02001k12009k03001k13109");
        // with 9 one goes, as 9 + 1 is more than 9, and the other stays, as it is not more than 10
        Check.due("even(0) of the greatest", only.even(0), 9);
        Check.due("even(1) of the least", only.even(1), 0);
        // one would go with 10 only
        Check.due("even(0) of none", Check.withMesh("M0g0g0rrk02001k12109k03001k13999").even(0), 0);
    }

    private static void evenSmallest() {
        Edge.says("Promise 20", "of several the smallest offset.");
        Check.due("even(0) of one gateway", Check.withMesh("M0g5rrk01001k12001").even(0), 0);
        Check.due("even(1) of a gateway alone", Check.withMesh("M0g0g5rk02001").even(1), 0);
        Check.due("even(7) of eight", Check.withMesh("M0" + Edge.GATEWAYS + Edge.NINE).even(7), 0);
    }

    private static void evenAnswers() {
        Edge.says("Promise 20", "Returns the offset; UNKNOWN if there is no such node or it is not a gateway.");
        Edge.same("even(0)", x -> x.even(0), 0);
        for (int gateway : new int[] {-1, 1, 2, 3, 8, Edge.MIN, Edge.MAX}) {
            Edge.same("even(" + gateway + ")", x -> x.even(gateway), Check.UNKNOWN);
        }
        Edge.same(MeshParents::new, "even(0)", x -> x.even(0), Check.UNKNOWN);
    }

    private static MeshParents line() {
        MeshParents x = Check.withMesh(LINE);
        x.round(3);
        return x;
    }

    private static void judged(long event, int want) {
        Edge.same(EdgePredictions::line, "judge(1, " + event + ")", x -> x.judge(1, event), want);
    }

    private static void areTrue(long... events) {
        for (long event : events) {
            judged(event, Check.NONE);
        }
    }

    private static void areNot(long... events) {
        for (long event : events) {
            judged(event, 0);
        }
    }

    private static void judgeEvents() {
        Edge.says("Promise 21", "Checks a sequence of one to three events, each given by five digits; the first event is"
            + " that of the highest digits of row.");
        Edge.same(EdgePredictions::line, "one", x -> x.judge(1, 41100L), Check.NONE);
        Edge.same(EdgePredictions::line, "two", x -> x.judge(2, 4110043100L), Check.NONE);
        Edge.same(EdgePredictions::line, "three", x -> x.judge(3, 411004310070000L), Check.NONE);
        Edge.same(EdgePredictions::line, "the first of two", x -> x.judge(2, 4100043100L), 0);
        Edge.same(EdgePredictions::line, "the last of two", x -> x.judge(2, 4110043000L), 1);
        Edge.same(EdgePredictions::line, "the first of three", x -> x.judge(3, 410004310070000L), 0);
        Edge.same(EdgePredictions::line, "the second of three", x -> x.judge(3, 411004300070000L), 1);
        Edge.same(EdgePredictions::line, "the last of three", x -> x.judge(3, 411004310070100L), 2);
    }

    private static void judgeLastDigits() {
        Edge.says("Promise 21", "An event is, by its first digit and the four digits a, b, c, d after it,"
            + " where c and d must be 0:");
        for (long event : new long[] {10100, 20000, 30000, 41100, 51000, 60300, 70000}) {
            judged(event, Check.NONE);
            for (long more : new long[] {1, 9, 10, 90, 99, 11}) {
                judged(event + more, 0);
            }
        }
    }

    private static void judgeRounds() {
        Edge.says("Promise 21", "1: 10 * a + b rounds pass, 1 to 99;");
        areTrue(10100, 10900, 11000, 19000, 19900);
        areNot(10000);
        MeshParents x = Check.withMesh(EdgeRoutes.LONGEST);
        for (int n = 1; n <= 9; n++) {
            long row = (10000 + 100L * n) * 100000 + 60000 + 100 * Math.min(7, n);
            Check.due("judge(2, " + row + ")", x.judge(2, row), Check.NONE);
            Check.due("judge(2, " + (row + 100) + ")", x.judge(2, row + 100), 1);
        }
        MeshParents y = late(2, 5);
        Check.due("20 rounds, and a route that is lost", y.judge(2, 1200044000L), Check.NONE);
        Check.due("21 rounds, and one that is there again", y.judge(2, 1210044100L), Check.NONE);
    }

    private static void judgeTurns() {
        Edge.says("Promise 21", "2: link a is turned as by turn(), where b must be 0;");
        areTrue(20000, 22000);
        areNot(20100, 20900, 23000, 29000);
        MeshParents nine = Check.withMesh("M0g0rrrrrrr" + Edge.NINE);
        Check.due("link 8", nine.judge(1, 28000), Check.NONE);
        Check.due("link 9", nine.judge(1, 29000), 0);
        nine.round(1);
        Check.due("turned down", nine.judge(3, 266001010047000L), 0);
        Check.due("turned down", nine.judge(3, 260001010047000L), Check.NONE);
        Check.due("turned twice", nine.judge(3, 260002600010100L), Check.NONE);
        nine.turn(6);
        nine.round(2);
        Check.due("turned up", nine.judge(3, 260001010047100L), Check.NONE);
        Check.due("no link", new MeshParents().judge(1, 20000), 0);
    }

    private static void judgeOffsets() {
        Edge.says("Promise 21", "3: gateway a gets the offset b;");
        areTrue(30000, 30900, 34000, 34900);
        areNot(31000, 32000, 33000, 35000, 39900);
        Edge.same(EdgePredictions::line, "a greater offset", x -> x.judge(3, 309001010070100L), Check.NONE);
        Edge.same(EdgePredictions::line, "the same offset", x -> x.judge(3, 300001010070000L), Check.NONE);
    }

    private static void judgeReached() {
        Edge.says("Promise 21", "4: node a is reached (b is 1) or is not (b is 0);");
        areTrue(40100, 43100, 44100);
        areNot(40000, 43000, 43200, 43900, 45000, 45100, 49000, 49100);
        MeshParents x = Check.withMesh("M0rg0");
        Check.due("a router alone is not", x.judge(2, 4000041100L), Check.NONE);
        Check.due("a router alone is", x.judge(1, 40100), 0);
        for (int b = 2; b <= 9; b++) {
            Check.due("a router alone and " + b, x.judge(1, 40000 + 100L * b), 0);
            Check.due("a gateway and " + b, x.judge(1, 41000 + 100L * b), 0);
        }
        Check.due("no node", new MeshParents().judge(1, 40000), 0);
    }

    private static void judgeParents() {
        Edge.says("Promise 21", "5: node b is the parent of node a;");
        areTrue(51000, 52100, 53200);
        areNot(50000, 50100, 50900, 51100, 51200, 51900, 54000, 54900, 55000, 59000);
        MeshParents x = Check.withMesh("M0rg0k01001");
        Check.due("no parent yet", x.judge(1, 50100), 0);
        Check.due("after a round", x.judge(2, 1010050100L), Check.NONE);
        // nobody is the parent of a node without one, whatever number stands for none
        for (int b = 0; b <= 9; b++) {
            Check.due("a node without a parent and " + b, x.judge(1, 50000 + 100L * b), 0);
        }
    }

    private static void judgeLoads() {
        Edge.says("Promise 21", "6: the load of gateway a is b;");
        areTrue(60300, 64000);
        areNot(60200, 60400, 61000, 62000, 63000, 64100, 65000, 69000);
        MeshParents x = Check.withMesh(EdgeRoutes.LONGEST);
        x.round(7);
        Check.due("the greatest load", x.judge(1, 60700), Check.NONE);
        Check.due("one more", x.judge(1, 60800), 0);
        Check.due("no gateway", new MeshParents().judge(1, 60000), 0);
    }

    private static void judgeNumbers() {
        Edge.says("Promise 21", "7: the sequence number is 10 * a + b.");
        areTrue(70000);
        areNot(70100, 71000, 79900);
        MeshParents x = Check.withMesh("M0g0rk01001");
        for (int number = 0; number <= 101; number++) {
            long row = 70000 + 100L * (number % 100);
            Check.due("judge(1, " + row + ") of " + number, x.judge(1, row), number < 100 ? Check.NONE : 0);
            Check.due("judge(1, 79900) of " + number, x.judge(1, 79900), number == 99 ? Check.NONE : 0);
            x.round(2);
            x.offset(0, 9);
            x.round(1);
            x.offset(0, 0);
        }
    }

    private static void judgeOthers() {
        Edge.says("Promise 21",
            "Each other first digit, and a node, gateway or link that does not exist, is not possible.");
        areNot(0, 100, 1000, 1100, 9900, 80000, 80100, 81000, 89900, 90000, 90100, 91000, 99900, 99999);
        areNot(29000, 39000, 49000, 49100, 59000, 51900, 69000);
        MeshParents nothing = new MeshParents();
        for (long event : new long[] {20000, 30000, 40000, 40100, 50000, 60000}) {
            Check.due("judge(1, " + event + ") of nothing", nothing.judge(1, event), 0);
        }
        Check.due("rounds of nothing", nothing.judge(2, 1990070000L), Check.NONE);
    }

    private static void judgeCarriesOut() {
        Edge.says("Promise 21", "The events are tried one after the other from the present state on, those of 1 to 3 are"
            + " carried out if they are possible, those of 4 to 7 are statements.");
        Edge.same(EdgePredictions::line, "down, a round, lost", x -> x.judge(3, 200001010041000L), Check.NONE);
        Edge.same(EdgePredictions::line, "a round, down, not yet lost", x -> x.judge(3, 101002000041100L), Check.NONE);
        Edge.same(EdgePredictions::line, "down and up", x -> x.judge(3, 200002000041100L), Check.NONE);
        Edge.same(EdgePredictions::line, "what comes after the first that is false", x -> x.judge(3, 410009999999999L), 0);
        Edge.same(EdgePredictions::line, "a state of its own", x -> x.judge(3, 199001990019900L) + x.judge(1, 41100), -18);
    }

    private static void judgeDigits() {
        Edge.says("Promise 21", "`row`: the digits, as a number of at most 5 * n digits; leading zeros are missing");
        long[] longest = {99999L, 9999999999L, 999999999999999L};
        for (int n = 1; n <= 3; n++) {
            int events = n;
            Edge.same("the longest row of " + n, x -> x.judge(events, longest[events - 1]), 0);
            Edge.same("one digit more than for " + n, x -> x.judge(events, longest[events - 1] + 1), Check.BAD);
            Edge.same("0 for " + n, x -> x.judge(events, 0L), 0);
        }
        Edge.same("two events of which the first is 00000", x -> x.judge(2, 70000L), 0);
        Edge.same("three events of which the first is 00007", x -> x.judge(3, 77000070000L), 0);
    }

    private static void judgeAnswers() {
        Edge.says("Promise 21", "Returns the index, from 0, of the first event that is not possible or a statement that is"
            + " false, or NONE if there is none; BAD if n is not 1 to 3 or row is negative or has more than 5 * n digits.");
        for (int n : new int[] {-1, 0, 4, 5, 256, Edge.MIN, Edge.MAX}) {
            Edge.same("judge(" + n + ", 70000)", x -> x.judge(n, 70000L), Check.BAD);
            Edge.same("judge(" + n + ", 0)", x -> x.judge(n, 0L), Check.BAD);
        }
        for (int n = 1; n <= 3; n++) {
            int events = n;
            for (long row : new long[] {-1, -70000, -99999, 1000000000000000L, Long.MAX_VALUE, Long.MIN_VALUE}) {
                Edge.same("judge(" + n + ", " + row + ")", x -> x.judge(events, row), Check.BAD);
            }
        }
        Edge.same("none", x -> x.judge(1, 70000L), Check.NONE);
        Edge.same("three that are not possible", x -> x.judge(3, 999999999999999L), 0);
    }
}
