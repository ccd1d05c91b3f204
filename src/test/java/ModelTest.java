import java.util.Random;

/** Long mixed runs on the class and on the model: each answer must be the same. The runs are the same each time. */
final class ModelTest {
    private static final int RUNS = 300;
    private static final int CALLS = 512;

    private final Random dice;
    private final MeshParents x = new MeshParents();
    private final Model y = new Model();
    private int nodes;
    private int links;

    private ModelTest(long seed) {
        dice = new Random(seed);
    }

    public static void main(String[] args) {
        for (int run = 0; run < RUNS; run++) {
            Check.test("run " + run);
            new ModelTest(run).play();
        }
        Check.end();
    }

    private void play() {
        int calls = 0;
        boolean dense = dice.nextBoolean();
        while (calls < CALLS) {
            if (calls == 0 || dice.nextInt(dense ? 150 : 60) == 0) {
                calls += readMesh();
            }
            act();
            calls++;
        }
    }

    private int upTo(int n) {
        return n <= 0 ? 0 : dice.nextInt(n);
    }

    /** A value of 0 to most, now and then one beyond. */
    private int near(int most) {
        return dice.nextInt(25) == 0 ? most + 1 : dice.nextInt(25) == 0 ? -1 : upTo(most + 1);
    }

    private int readMesh() {
        String text = randomText();
        Check.due("wipe()", x.wipe(), y.wipe());
        for (char c : text.toCharArray()) {
            Check.due("write(" + (int) c + ")", x.write(c), y.write(c));
        }
        Check.due("fault() of " + text, x.fault(), y.fault());
        Check.due("mesh() of " + text, x.mesh(), y.mesh());
        nodes = y.about(0);
        links = y.about(1);
        return text.length() + 3;
    }

    private String randomText() {
        StringBuilder s = new StringBuilder("M").append(dice.nextInt(3) == 0 ? dice.nextInt(10) : dice.nextInt(3));
        int made = 0;
        int most = 1 + dice.nextInt(9);
        int gateways = 1 + dice.nextInt(4);
        boolean[][] joined = new boolean[10][10];
        int joins = 0;
        int parts = most + dice.nextInt(11);
        for (int part = 0; part < parts; part++) {
            if (made < most && (made < 2 || part < most || dice.nextBoolean())) {
                s.append(randomNode(made < gateways ? dice.nextInt(4) : 3 + dice.nextInt(8)));
                made++;
            } else {
                int a = upTo(made);
                int b = upTo(made);
                for (int i = 0; i < 20 && (a == b || joined[a][b]); i++) {
                    a = upTo(made);
                    b = upTo(made);
                }
                if (a == b || joined[a][b] || joins == 9) {
                    if (dice.nextInt(4) > 0) {
                        continue;
                    }
                }
                joined[a][b] = joined[b][a] = true;
                joins++;
                s.append('k').append(a).append(b).append(lossDigit()).append(lossDigit()).append(1 + dice.nextInt(9));
            }
        }
        if (dice.nextInt(5) == 0) {
            s.setCharAt(dice.nextInt(s.length()), "M0123456789grlk.x".charAt(dice.nextInt(17)));
        }
        if (dice.nextInt(8) == 0) {
            s.setLength(dice.nextInt(s.length() + 1));
        }
        return s.length() > 105 ? s.substring(0, 105) : s.toString();
    }

    private int lossDigit() {
        return dice.nextBoolean() ? 0 : dice.nextInt(10);
    }

    private String randomNode(int choice) {
        if (choice < 3) {
            return "g" + dice.nextInt(10);
        }
        if (choice < 9) {
            return "r";
        }
        int cycle = 1 + dice.nextInt(9);
        return "l" + cycle + dice.nextInt(cycle);
    }

    private long randomRow(int n) {
        StringBuilder s = new StringBuilder();
        for (int i = 0; i < n; i++) {
            int kind = dice.nextInt(20) == 0 ? dice.nextInt(10) : 1 + dice.nextInt(7);
            boolean tens = kind == 1 && dice.nextInt(3) > 0 || kind == 7;
            int a = tens ? dice.nextInt(8) / 7 : upTo(kind == 2 ? links : nodes);
            int b = kind == 2 ? dice.nextInt(8) / 7 : kind == 4 ? dice.nextInt(17) / 8 : dice.nextInt(5);
            s.append(kind).append(near(a) < 0 ? 9 : a).append(b);
            s.append(dice.nextInt(12) == 0 ? dice.nextInt(10) : 0).append(dice.nextInt(12) == 0 ? dice.nextInt(10) : 0);
        }
        if (dice.nextInt(20) == 0) {
            s.append(0);
        }
        long row = Long.parseLong(s.toString());
        return dice.nextInt(40) == 0 ? -row : row;
    }

    private void act() {
        int node = near(nodes - 1);
        int other = near(nodes - 1);
        int link = near(links - 1);
        int v = near(9);
        boolean flag = dice.nextBoolean();
        switch (dice.nextInt(40)) {
            case 0:
            case 1:
                int a = near(11);
                Check.due("about(" + a + ")", x.about(a), y.about(a));
                break;
            case 2:
            case 3:
            case 4:
            case 5:
                Check.due("node(" + node + ", " + v + ")", x.node(node, v), y.node(node, v));
                break;
            case 6:
                int l = near(6);
                Check.due("link(" + link + ", " + l + ")", x.link(link, l), y.link(link, l));
                break;
            case 7:
                Check.due("price(" + node + ", " + other + ")", x.price(node, other), y.price(node, other));
                break;
            case 8:
                Check.due("safe(" + node + ", " + other + ")", x.safe(node, other), y.safe(node, other));
                break;
            case 9:
            case 10:
            case 11:
            case 12:
            case 13:
            case 14:
                int n = dice.nextInt(20) == 0 ? near(100) : 1 + dice.nextInt(4);
                Check.due("round(" + n + ")", x.round(n), y.round(n));
                break;
            case 15:
            case 16:
            case 17:
                Check.due("turn(" + link + ")", x.turn(link), y.turn(link));
                break;
            case 18:
            case 19:
                Check.due("lose(" + link + ", " + flag + ", " + v + ")", x.lose(link, flag, v), y.lose(link, flag, v));
                break;
            case 20:
            case 21:
                Check.due("offset(" + node + ", " + v + ")", x.offset(node, v), y.offset(node, v));
                break;
            case 22:
                Check.due("margin(" + v + ")", x.margin(v), y.margin(v));
                break;
            case 23:
            case 24:
                Check.due("undo()", x.undo(), y.undo());
                break;
            case 25:
                int m = dice.nextBoolean() ? near(99) : near(9);
                int w = 2 + near(7);
                Check.due("ahead(" + m + ", " + node + ", " + w + ")", x.ahead(m, node, w), y.ahead(m, node, w));
                break;
            case 26:
                Check.due("still()", x.still(), y.still());
                break;
            case 27:
                Check.due("word(" + node + ")", x.word(node), y.word(node));
                break;
            case 28:
                Check.due("even(" + node + ")", x.even(node), y.even(node));
                break;
            case 29:
            case 30:
                int events = dice.nextInt(20) == 0 ? near(4) : 1 + dice.nextInt(3);
                long row = randomRow(Math.max(1, Math.min(3, events)));
                Check.due("judge(" + events + ", " + row + ")", x.judge(events, row), y.judge(events, row));
                break;
            case 31:
                int late = near(20);
                int is = near(1);
                Check.due("see(" + node + ", " + late + ", " + is + ")", x.see(node, late, is), y.see(node, late, is));
                break;
            case 32:
                if (dice.nextInt(4) == 0) {
                    Check.due("unsee()", x.unsee(), y.unsee());
                }
                break;
            case 33:
            case 34:
                Check.due("which()", x.which(), y.which());
                break;
            case 35:
                Check.due("share(" + node + ", " + flag + ")", x.share(node, flag), y.share(node, flag));
                break;
            case 36:
                int p = near(10);
                if (links < 7 || dice.nextInt(8) == 0) {
                    Check.due("chance(" + p + ", " + flag + ")", x.chance(p, flag), y.chance(p, flag));
                }
                break;
            case 37:
                long seed = dice.nextLong();
                Check.due("seed(" + seed + ")", x.seed(seed), y.seed(seed));
                break;
            case 38:
                int d = near(20);
                Check.due("drawn(" + d + ")", x.drawn(d), y.drawn(d));
                break;
            default:
                int slot = near(1);
                if (flag) {
                    Check.due("keep(" + slot + ")", x.keep(slot), y.keep(slot));
                } else {
                    Check.due("again(" + slot + ")", x.again(slot), y.again(slot));
                }
        }
    }
}
