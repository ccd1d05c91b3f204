import java.util.ArrayList;
import java.util.List;

/** What the tests share: meshes from texts, answers that are due, and a picture of all that an object shows. */
final class Check {
    static final int UNKNOWN = MeshParents.UNKNOWN, BAD = MeshParents.BAD, LATE = MeshParents.LATE;
    static final int FULL = MeshParents.FULL, NONE = MeshParents.NONE;

    private static String test = "";
    private static int wrong;
    private static int answers;

    private Check() {
    }

    static void test(String name) {
        test = name;
    }

    static void due(String call, long got, long want) {
        answers++;
        if (got != want) {
            wrong++;
            System.out.println(test + ": " + call + " answered " + got + ", due is " + want);
        }
    }

    static void holds(String what, boolean is) {
        answers++;
        if (!is) {
            wrong++;
            System.out.println(test + ": " + what);
        }
    }

    /** Ends a test's main method. */
    static void end() {
        System.out.println(answers + " answers, " + wrong + " wrong");
        if (wrong > 0 || answers == 0) {
            System.exit(1);
        }
    }

    static void writeAll(MeshParents x, String text) {
        for (char letter : text.toCharArray()) {
            x.write(letter);
        }
    }

    static MeshParents withText(String text) {
        MeshParents x = new MeshParents();
        writeAll(x, text);
        return x;
    }

    static MeshParents withMesh(String text) {
        MeshParents x = withText(text);
        holds("no mesh text: " + text, x.mesh() >= 0);
        return x;
    }

    /** All that can be asked without a change. */
    static List<Long> picture(MeshParents x) {
        List<Long> all = new ArrayList<>();
        for (int what = 0; what <= 11; what++) {
            all.add((long) x.about(what));
        }
        for (int node = 0; node < 8; node++) {
            for (int what = 0; what <= 9; what++) {
                all.add((long) x.node(node, what));
            }
        }
        for (int link = 0; link < 9; link++) {
            for (int what = 0; what <= 6; what++) {
                all.add((long) x.link(link, what));
            }
        }
        all.add((long) x.fault());
        all.add((long) x.which());
        long random = x.seed(0L);
        all.add(random);
        x.seed(random);
        return all;
    }

    /** A call that must give this error and change nothing. */
    interface Call {
        long on(MeshParents x);
    }

    static void refused(String name, MeshParents x, Call call, long error) {
        List<Long> before = picture(x);
        due(name, call.on(x), error);
        holds(name + " changed something", picture(x).equals(before));
    }

    /** A text that has a fault gives no mesh. */
    static void refusedIfFaulty(String text, MeshParents x) {
        if (x.fault() != NONE) {
            refused("mesh() of " + text, x, o -> o.mesh(), LATE);
        }
    }

    static void changesNothing(String name, MeshParents x, Call call, long want) {
        refused(name, x, call, want);
    }
}
