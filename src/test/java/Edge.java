import java.util.ArrayList;
import java.util.List;
import java.util.function.Supplier;

/** What the tests of single sentences share: the quoted sentence, and whether a call changed anything at all. */
final class Edge {
    /** The texts of eight gateways, routers and leaves, and of nine links between eight nodes. */
    static final String GATEWAYS = "g0g0g0g0g0g0g0g0", ROUTERS = "rrrrrrrr", LEAVES = "l10l10l10l10l10l10l10l10";
    static final String NINE = "k01001k02001k03001k04001k05001k06001k07001k12001k34001";
    static final int MIN = Integer.MIN_VALUE, MAX = Integer.MAX_VALUE;

    private static Doc doc;

    private Edge() {
    }

    static void readFrom(Doc document) {
        doc = document;
    }

    /** The sentence for which the next answers stand, and its place in the document. */
    static void says(String place, String words) {
        Check.test(place + " \"" + words + "\"");
        Check.holds("the document has no such words", doc.quote(place, words));
    }

    /** A gateway, a router and a leaf in a row, with changes, a saved state, observations and a longer text. */
    static MeshParents rich() {
        MeshParents x = Check.withMesh("M1g2rl20k01102k12003");
        x.round(3);
        x.keep(1);
        x.turn(1);
        x.offset(0, 5);
        x.see(1, 4, 1);
        x.see(2, 0, 0);
        x.seed(77L);
        x.write('r');
        return x;
    }

    /** The same, but six observations. */
    static MeshParents withSixObservations() {
        MeshParents x = rich();
        for (int n = 2; n < 6; n++) {
            x.see(1, n, 1);
        }
        return x;
    }

    /** The mesh of the text, made ready for one call after the other. */
    static Supplier<MeshParents> mesh(String text) {
        return () -> Check.withMesh(text);
    }

    /** All that an object can still tell: what it shows now, before each change, from the slots and by its text. */
    static List<Long> everything(MeshParents x) {
        List<Long> all = new ArrayList<>();
        look(x, all);
        // bounded, as undo() itself may be what is wrong
        for (int n = 0; n < 20 && x.undo() >= 0; n++) {
            look(x, all);
        }
        for (int slot = 0; slot < 2; slot++) {
            all.add((long) x.again(slot));
            look(x, all);
        }
        all.add(x.seed(0L));
        all.add((long) x.mesh());
        all.add((long) x.wipe());
        look(x, all);
        return all;
    }

    private static void look(MeshParents x, List<Long> all) {
        for (int what = 0; what <= 11; what++) {
            all.add((long) x.about(what));
        }
        for (int node = 0; node < x.about(0); node++) {
            for (int what = 0; what <= 9; what++) {
                all.add((long) x.node(node, what));
            }
        }
        for (int link = 0; link < x.about(1); link++) {
            for (int what = 0; what <= 6; what++) {
                all.add((long) x.link(link, what));
            }
        }
        all.add((long) x.fault());
        all.add((long) x.which());
    }

    /** A call with this answer that changes nothing: a twin on which it was not made tells the same from then on. */
    static void same(Supplier<MeshParents> maker, String name, Check.Call call, long want) {
        MeshParents x = maker.get();
        Check.due(name, call.on(x), want);
        Check.holds(name + " changed something", everything(x).equals(everything(maker.get())));
    }

    static void same(String name, Check.Call call, long want) {
        same(Edge::rich, name, call, want);
    }

    /** Moves from the present state on, a round at a time, and tells the parents after each: the first are those of now. */
    static List<List<Integer>> parentsFromNow(MeshParents x, int rounds) {
        List<List<Integer>> all = new ArrayList<>();
        for (int n = 0; n <= rounds; n++) {
            List<Integer> parents = new ArrayList<>();
            for (int node = 0; node < x.about(0); node++) {
                parents.add(x.node(node, 3));
            }
            all.add(parents);
            x.round(1);
        }
        return all;
    }
}
