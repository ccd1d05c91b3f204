/** Promises 17 to 21: ahead, still, word, even and judge. */
final class PredictTest {
    /** A gateway, two routers in a row, a leaf that is awake in even rounds at their end, a gateway alone. */
    private static final String LINE = "M1g2rrl20g5k01001k12002k23003";
    /** Two gateways that both routers hear, at different prices. */
    private static final String SQUARE = "M0g0g0rrk02003k12005k03003k13009";

    public static void main(String[] args) {
        ahead();
        still();
        word();
        even();
        judgeKinds();
        judgeRows();
        Check.end();
    }

    private static void ahead() {
        Check.test("promise 17");
        MeshParents x = Check.withMesh(LINE);
        MeshParents y = Check.withMesh(LINE);
        y.offset(0, 3);
        x.offset(0, 3);
        for (int n = 0; n <= 6; n++) {
            for (int node = 0; node < 5; node++) {
                for (int what = 3; what <= 9; what++) {
                    int[] asked = {n, node, what};
                    Check.changesNothing("ahead(" + n + ", " + node + ", " + what + ")", x,
                        o -> o.ahead(asked[0], asked[1], asked[2]), y.node(node, what));
                }
            }
            y.round(1);
        }
        Check.due("ahead(0, 3, 3)", x.ahead(0, 3, 3), Check.NONE);
        Check.due("ahead(2, 3, 3)", x.ahead(2, 3, 3), Check.NONE);
        Check.due("ahead(3, 3, 3)", x.ahead(3, 3, 3), 2);
        Check.due("ahead(99, 3, 4)", x.ahead(99, 3, 4), 9);
        Check.due("ahead(99, 0, 9)", x.ahead(99, 0, 9), 3);
        Check.refused("ahead(100, 0, 3)", x, o -> o.ahead(100, 0, 3), Check.BAD);
        Check.refused("ahead(-1, 0, 3)", x, o -> o.ahead(-1, 0, 3), Check.BAD);
        Check.refused("ahead(1, 0, 2)", x, o -> o.ahead(1, 0, 2), Check.BAD);
        Check.refused("ahead(1, 0, 10)", x, o -> o.ahead(1, 0, 10), Check.BAD);
        Check.refused("ahead(1, 5, 3)", x, o -> o.ahead(1, 5, 3), Check.UNKNOWN);
        Check.refused("ahead(1, -1, 3)", x, o -> o.ahead(1, -1, 3), Check.UNKNOWN);
        Check.refused("ahead(100, 5, 2)", x, o -> o.ahead(100, 5, 2), Check.UNKNOWN);
    }

    private static void still() {
        Check.test("promise 18");
        MeshParents x = Check.withMesh(LINE);
        Check.changesNothing("still()", x, o -> o.still(), 3);
        x.round(1);
        Check.due("still() later", x.still(), 2);
        x.round(2);
        Check.due("still() then", x.still(), 0);
        x.turn(2);
        // the leaf sleeps in the next round
        Check.due("still() after turn(2)", x.still(), 2);
        // costs that change do not count
        MeshParents y = Check.withMesh("M0g0rk01001");
        y.round(1);
        y.lose(0, true, 5);
        Check.due("still() with a new loss", y.still(), 0);
        // in round 9 the leaf hears the router: that is n + 9, so n = 1 is not enough
        Check.due("still() of a late leaf", Check.withMesh("M0g0rl90k01001k12001").still(), 10);
        // here it is awake in round 8 and has heard it then
        Check.due("still() of another", Check.withMesh("M0g0rl98k01001k12001").still(), 9);
        MeshParents z = Check.withMesh("M0g0l90k01001");
        z.round(1);
        z.turn(0);
        // it notices in the ninth round from now, which is one too early for n = 0
        Check.due("still() until the leaf notices", z.still(), 9);
        z.round(1);
        Check.due("still() a round later", z.still(), 8);
        // the leaf hears of the greater cost of its parent in the tenth round from now: n = 0 is still right
        MeshParents late = Check.withMesh("M0g0rrl90k01001k02001k13001k23002");
        late.round(18);
        Check.due("the leaf's parent", late.node(3, 3), 1);
        late.lose(0, true, 9);
        Check.due("ahead(9, 3, 3)", late.ahead(9, 3, 3), 1);
        Check.due("ahead(10, 3, 3)", late.ahead(10, 3, 3), 2);
        Check.due("still() of ten rounds", late.still(), 0);
        Check.due("still() of nothing", new MeshParents().still(), 0);
    }

    private static void word() {
        Check.test("promise 19");
        MeshParents x = Check.withMesh(LINE);
        Check.changesNothing("word(0)", x, o -> o.word(0), 0);
        Check.changesNothing("word(1)", x, o -> o.word(1), 1);
        Check.due("word(2)", x.word(2), 3);
        Check.due("word(3)", x.word(3), 5);
        Check.due("word(4)", x.word(4), 0);
        x.round(3);
        Check.due("word(2) later", x.word(2), 2);
        // the leaf has a parent, but sleeps in the next round
        Check.due("word(3) later", x.word(3), 4);
        x.round(1);
        Check.due("word(3) then", x.word(3), 3);
        x.turn(0);
        // router 1 loses its route, router 2 passes the message on to it all the same, and there it stays
        Check.due("word(2) without the gateway", x.word(2), Check.NONE);
        Check.refused("word(5)", x, o -> o.word(5), Check.UNKNOWN);
        Check.refused("word(-1)", x, o -> o.word(-1), Check.UNKNOWN);
        MeshParents y = Check.withMesh("M0g0l98k01001");
        Check.due("word(1) of a leaf", y.word(1), 9);
        y.round(9);
        Check.due("word(1) of a leaf that sleeps again", y.word(1), 9);
        Check.due("word(0) of nothing", new MeshParents().word(0), Check.UNKNOWN);
    }

    private static void even() {
        Check.test("promise 20");
        MeshParents x = Check.withMesh(SQUARE);
        // 3 + 3 is greater than 5, and less than 9: each gateway has one router then
        Check.changesNothing("even(0)", x, o -> o.even(0), 3);
        // with no offset of gateway 1 does a router come to it; the smallest offset counts
        Check.changesNothing("even(1)", x, o -> o.even(1), 0);
        x.offset(0, 3);
        Check.due("even(1) with the offset 3", x.even(1), 0);
        Check.due("even(0) with the offset 3", x.even(0), 3);
        x.offset(1, 4);
        Check.due("even(0) with the offset 4 of the other", x.even(0), 7);
        x.margin(9);
        // the margin holds nobody back who has no parent yet
        Check.due("even(0) with a margin", x.even(0), 7);
        x.round(1);
        // with the margin both routers stay, and with 6 and more both lose gateway 0 and go to the other
        Check.due("even(0) after a round", x.even(0), 0);
        MeshParents one = Check.withMesh("M0g5rk01001");
        Check.due("even(0) of one gateway", one.even(0), 0);
        Check.refused("even(2)", x, o -> o.even(2), Check.UNKNOWN);
        Check.refused("even(4)", x, o -> o.even(4), Check.UNKNOWN);
        Check.refused("even(-1)", x, o -> o.even(-1), Check.UNKNOWN);
    }

    private static void judged(MeshParents x, int n, long row, int want) {
        Check.changesNothing("judge(" + n + ", " + row + ")", x, o -> o.judge(n, row), want);
    }

    private static void judgeKinds() {
        Check.test("promise 21, the events");
        MeshParents x = Check.withMesh(LINE);
        long[] right = {10100, 19900, 15000, 20000, 22000, 30000, 30900, 34500, 40100, 41000, 44100, 60000, 64000, 70000};
        for (long row : right) {
            judged(x, 1, row, Check.NONE);
        }
        long[] wrong = {0, 10, 100, 1000, 10000, 20100, 23000, 29000, 31000, 33000, 35000, 39900, 40000, 40200, 41100, 41200, 41900, 45000,
            45100, 49000, 50000, 51000, 54000, 55000, 50500, 56900, 60100, 61000, 62900, 65000, 69900, 70100, 71000, 79900, 80000,
            89900, 90000, 99900, 99999, 10110, 10101, 20001, 20010, 30090, 30009, 40101, 40110, 44119, 60001, 64010,
            70001, 70010};
        for (long row : wrong) {
            judged(x, 1, row, 0);
        }
        x.round(3);
        long[] rightLater = {41100, 43100, 44100, 51000, 52100, 53200, 60300, 64000, 70000};
        for (long row : rightLater) {
            judged(x, 1, row, Check.NONE);
        }
        long[] wrongLater = {43000, 51100, 51200, 51900, 50900, 54900, 50000, 60200, 60400, 64100, 51001, 51010, 53210};
        for (long row : wrongLater) {
            judged(x, 1, row, 0);
        }
    }

    private static void judgeRows() {
        Check.test("promise 21, rows");
        MeshParents x = Check.withMesh(LINE);
        judged(x, 3, 103004310060300L, Check.NONE);
        judged(x, 3, 103004310060200L, 2);
        judged(x, 3, 103004300060300L, 1);
        judged(x, 3, 103004300060200L, 1);
        judged(x, 3, 100004310060300L, 0);
        judged(x, 3, 102004310060300L, 1);
        judged(x, 2, 1030043100L, Check.NONE);
        // two turns of one link leave it up
        judged(x, 3, 200002000010100L, Check.NONE);
        judged(x, 3, 200001010041100L, 2);
        judged(x, 3, 200001010041000L, Check.NONE);
        // an offset that makes the routers ask
        x.round(3);
        judged(x, 3, 309001010070100L, Check.NONE);
        judged(x, 3, 309001010070000L, 2);
        judged(x, 3, 309001010041000L, Check.NONE);
        judged(x, 3, 200001050044100L, Check.NONE);
        judged(x, 3, 199001990019900L, Check.NONE);
        // missing zeros: the first events are 00000
        judged(x, 2, 70000, 0);
        judged(x, 3, 7000070000L, 0);
        judged(x, 3, 0, 0);
        judged(x, 1, 99999, 0);
        judged(x, 2, 9999999999L, 0);
        judged(x, 3, 999999999999999L, 0);
        judged(x, 1, 100000, Check.BAD);
        judged(x, 1, 7000000000L, Check.BAD);
        judged(x, 2, 10000000000L, Check.BAD);
        judged(x, 3, 1000000000000000L, Check.BAD);
        judged(x, 3, Long.MAX_VALUE, Check.BAD);
        judged(x, 3, Long.MIN_VALUE, Check.BAD);
        judged(x, 1, -1, Check.BAD);
        judged(x, 1, -70000, Check.BAD);
        judged(x, 0, 0, Check.BAD);
        judged(x, 4, 70000, Check.BAD);
        judged(x, -1, 70000, Check.BAD);
        judged(x, Integer.MIN_VALUE, 0, Check.BAD);
        MeshParents y = new MeshParents();
        judged(y, 1, 70000, Check.NONE);
        judged(y, 1, 40000, 0);
        judged(y, 1, 60000, 0);
        judged(y, 1, 20000, 0);
        MeshParents z = Check.withMesh("M0g0rk01001");
        for (int i = 0; i < 12; i++) {
            z.round(3);
            z.offset(0, 9);
            z.round(3);
            z.offset(0, 0);
        }
        Check.due("the sequence number", z.about(5), 12);
        judged(z, 1, 71200, Check.NONE);
        judged(z, 1, 70200, 0);
        judged(z, 1, 72100, 0);
    }
}
