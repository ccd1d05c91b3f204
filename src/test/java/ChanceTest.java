/** Promises 25 to 28: share, chance, seed and drawn. */
final class ChanceTest {
    private static final String SQUARE = "M0g0g0rrk02003k12005k03003k13009";

    public static void main(String[] args) {
        share();
        shareSum();
        shareErrors();
        chance();
        chanceOfNow();
        chanceErrors();
        seed();
        drawn();
        drawnWithoutLinks();
        Check.end();
    }

    private static void shareIs(MeshParents x, int gateway, int over, int under) {
        Check.changesNothing("share(" + gateway + ", true)", x, o -> o.share(gateway, true), over);
        Check.changesNothing("share(" + gateway + ", false)", x, o -> o.share(gateway, false), under);
    }

    private static void share() {
        Check.test("promise 25");
        MeshParents square = Check.withMesh(SQUARE);
        // each gateway alone reaches 3, both 4
        shareIs(square, 0, 2, 1);
        shareIs(square, 1, 2, 1);
        MeshParents one = Check.withMesh("M0g0g0rk02001");
        shareIs(one, 0, 2, 1);
        shareIs(one, 1, 1, 1);
        MeshParents three = Check.withMesh("M0g0g0g0rk03001k13009");
        shareIs(three, 0, 3, 2);
        shareIs(three, 1, 3, 2);
        shareIs(three, 2, 1, 1);
        MeshParents thirds = Check.withMesh("M0g0g0g0rk03001k13009k23005");
        shareIs(thirds, 0, 4, 3);
        shareIs(thirds, 1, 4, 3);
        shareIs(thirds, 2, 4, 3);
        // the routes of now lead to gateway 0, and go on to the other when it is silent
        square.round(9);
        shareIs(square, 0, 2, 1);
        shareIs(square, 1, 2, 1);
        square.turn(0);
        shareIs(square, 0, 3, 2);
        shareIs(square, 1, 5, 2);
        MeshParents alone = Check.withMesh("M9g9");
        shareIs(alone, 0, 1, 1);
    }

    private static void shareSum() {
        Check.test("promise 25, eight gateways");
        MeshParents x = Check.withMesh("M0g0g1g2g3g4g5g6rk07001k17001k27001k37001k47001k57001k67001");
        for (int gateway = 0; gateway < 7; gateway++) {
            shareIs(x, gateway, 8, 7);
        }
        MeshParents y = Check.withMesh("M0g0g1g2g3g4g5g6g7k07001");
        for (int gateway = 0; gateway < 8; gateway++) {
            shareIs(y, gateway, 1, 1);
        }
    }

    private static void shareErrors() {
        Check.test("promise 25, errors");
        MeshParents x = Check.withMesh("M0g0rl10");
        int[] none = {-1, 1, 2, 3, 8, 100, Integer.MIN_VALUE};
        for (int gateway : none) {
            Check.refused("share(" + gateway + ", true)", x, o -> o.share(gateway, true), Check.UNKNOWN);
            Check.refused("share(" + gateway + ", false)", x, o -> o.share(gateway, false), Check.UNKNOWN);
        }
    }

    private static void chanceIs(MeshParents x, int tenths, int over, int under) {
        Check.changesNothing("chance(" + tenths + ", true)", x, o -> o.chance(tenths, true), over);
        Check.changesNothing("chance(" + tenths + ", false)", x, o -> o.chance(tenths, false), under);
    }

    private static void chance() {
        Check.test("promise 26");
        MeshParents pair = Check.withMesh("M0g0rk01001");
        chanceIs(pair, 0, 1, 1);
        chanceIs(pair, 3, 7, 10);
        chanceIs(pair, 5, 1, 2);
        chanceIs(pair, 10, 0, 1);
        MeshParents triangle = Check.withMesh("M0g0rrk01001k02001k12001");
        // two of the three links are enough
        chanceIs(triangle, 1, 243, 250);
        chanceIs(triangle, 5, 1, 2);
        chanceIs(triangle, 10, 0, 1);
        MeshParents star = Check.withMesh("M0g0rrrrrrrk01001k02001k03001k04001k05001k06001k07001");
        chanceIs(star, 1, 4782969, 10000000);
        chanceIs(star, 9, 1, 10000000);
        MeshParents full = Check.withMesh("M0g0rrrrrrrk01001k02001k03001k04001k05001k06001k07001k12001k34001");
        // two triangles, each reached with 0.972, and three single links with 0.9
        chanceIs(full, 1, 43046721, 62500000);
        MeshParents gateways = Check.withMesh("M0g0g0k01001");
        chanceIs(gateways, 10, 1, 1);
        chanceIs(new MeshParents(), 7, 1, 1);
        chanceIs(Check.withMesh("M0r"), 0, 0, 1);
    }

    private static void chanceOfNow() {
        Check.test("promise 26, from now");
        MeshParents x = Check.withMesh("M0g0rrk01001k02001k12001");
        x.turn(2);
        chanceIs(x, 1, 81, 100);
        x.turn(0);
        // a link that is down stays down, also with x = 0
        chanceIs(x, 0, 0, 1);
        chanceIs(x, 10, 0, 1);
        x.turn(0);
        x.turn(2);
        x.round(10);
        // a router that loses its link asks, and has the way round after some rounds
        chanceIs(x, 1, 243, 250);
    }

    private static void chanceErrors() {
        Check.test("promise 26, errors");
        MeshParents x = Check.withMesh("M0g0rk01001");
        int[] bad = {-1, 11, 100, Integer.MIN_VALUE, Integer.MAX_VALUE};
        for (int tenths : bad) {
            Check.refused("chance(" + tenths + ", true)", x, o -> o.chance(tenths, true), Check.BAD);
            Check.refused("chance(" + tenths + ", false)", x, o -> o.chance(tenths, false), Check.BAD);
        }
    }

    private static void seed() {
        Check.test("promise 27");
        MeshParents x = new MeshParents();
        Check.due("seed(MAX)", x.seed(Long.MAX_VALUE), 0);
        Check.due("seed(MIN)", x.seed(Long.MIN_VALUE), Long.MAX_VALUE);
        Check.due("seed(-1)", x.seed(-1L), Long.MIN_VALUE);
        Check.due("seed(0)", x.seed(0L), -1);
        Check.due("no change is kept", x.about(9), 0);
    }

    /** What drawn() does, done by turn() and round() on an object that may change. */
    private static long drawnByHand(MeshParents x, long random, int m, int links, int[] missed) {
        long r = random;
        for (int i = 0; i < m; i++) {
            r = r * 6364136223846793005L + 1442695040888963407L;
            int v = (int) (r >>> 33);
            if (v / 16 % 2 == 0) {
                x.turn(v % links);
            }
            missed[0] += x.about(0) - x.round(1);
        }
        return r;
    }

    private static void drawn() {
        Check.test("promise 28");
        String[] texts = {"M0g0rk01001", "M1g2rrl20g5k01001k12002k23003", SQUARE,
            "M0g0rrrrk01001k12001k23001k34001k40009", "M0g0l52rk01001k02001"};
        int[] links = {1, 3, 4, 5, 2};
        for (int i = 0; i < texts.length; i++) {
            for (int m = 1; m <= 20; m++) {
                MeshParents x = Check.withMesh(texts[i]);
                MeshParents y = Check.withMesh(texts[i]);
                x.round(4);
                y.round(4);
                x.turn(0);
                y.turn(0);
                long random = 1000003L * m * (i + 1) * (m % 2 == 0 ? -1234567891011L : 1);
                x.seed(random);
                int[] missed = {0};
                long end = drawnByHand(y, random, m, links[i], missed);
                java.util.List<Long> before = Check.picture(x);
                Check.due("drawn(" + m + ") of " + texts[i], x.drawn(m), missed[0]);
                Check.due("the random number", x.seed(random), end);
                Check.holds("more than the random number changed", Check.picture(x).equals(before));
            }
        }
        MeshParents x = Check.withMesh("M0g0rk01001");
        Check.refused("drawn(0)", x, o -> o.drawn(0), Check.BAD);
        Check.refused("drawn(21)", x, o -> o.drawn(21), Check.BAD);
        Check.refused("drawn(-1)", x, o -> o.drawn(-1), Check.BAD);
    }

    private static void drawnWithoutLinks() {
        Check.test("promise 28, no links");
        MeshParents x = Check.withMesh("M0g0rr");
        Check.due("drawn(1)", x.drawn(1), 0);
        Check.due("seed(0)", x.seed(0L), 1442695040888963407L);
        Check.due("drawn(2)", x.drawn(2), 0);
        Check.due("seed(0)", x.seed(0L), 1876011003808476466L);
        Check.due("about(6)", x.about(6), 0);
    }
}
