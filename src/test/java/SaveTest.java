import java.util.List;

/** Promises 29 and 30: keep and again. */
final class SaveTest {
    public static void main(String[] args) {
        keep();
        again();
        everything();
        errors();
        Check.end();
    }

    private static void keep() {
        Check.test("promise 29");
        MeshParents x = Check.withMesh("M0g0rk01001");
        Check.changesNothing("keep(0)", x, o -> o.keep(0), 0);
        x.round(7);
        Check.changesNothing("keep(1)", x, o -> o.keep(1), 7);
        x.round(2);
        Check.due("keep(0) once more", x.keep(0), 9);
        Check.due("about(9)", x.about(9), 2);
        x.round(5);
        Check.due("again(0)", x.again(0), 9);
        Check.due("again(1)", x.again(1), 7);
        MeshParents empty = new MeshParents();
        empty.round(3);
        Check.due("keep(1) of nothing", empty.keep(1), 3);
        Check.due("again(1) of nothing", empty.again(1), 3);
    }

    private static void again() {
        Check.test("promise 30");
        MeshParents x = Check.withMesh("M0g0rk01001");
        x.round(2);
        x.keep(1);
        x.turn(0);
        x.round(3);
        Check.due("about(9)", x.about(9), 3);
        Check.due("again(1)", x.again(1), 2);
        Check.due("about(9) then", x.about(9), 0);
        Check.due("undo()", x.undo(), Check.LATE);
        Check.due("about(8)", x.about(8), 0);
        Check.due("about(7)", x.about(7), 3);
        x.turn(0);
        x.round(9);
        Check.due("undo()", x.undo(), 1);
        Check.due("again(1) once more", x.again(1), 2);
        Check.due("about(8)", x.about(8), 0);
        // what was restored is not what is saved: changes leave it alone
        x.offset(0, 9);
        x.margin(9);
        x.lose(0, true, 9);
        Check.due("again(1) a third time", x.again(1), 2);
        Check.due("node(0, 1)", x.node(0, 1), 0);
        Check.due("about(4)", x.about(4), 0);
        Check.due("link(0, 5)", x.link(0, 5), 1);
    }

    private static void everything() {
        Check.test("promises 29 and 30, all that is saved");
        MeshParents x = Check.withMesh("M1g2rrl20g5k01001k12002k23003");
        x.round(4);
        x.offset(0, 6);
        x.round(2);
        x.lose(1, false, 3);
        x.lose(2, true, 4);
        x.turn(2);
        x.margin(7);
        x.keep(0);
        x.again(0);
        List<Long> before = Check.picture(x);
        Check.due("the sequence number", x.about(5), 1);
        x.turn(2);
        x.turn(0);
        x.round(30);
        x.turn(0);
        x.offset(0, 9);
        x.offset(4, 1);
        x.margin(0);
        x.lose(0, false, 9);
        x.lose(1, true, 9);
        x.round(40);
        x.again(0);
        Check.holds("not all is restored", Check.picture(x).equals(before));
        // the text, the observations and the random number are not saved
        x.see(1, 1, 1);
        x.seed(8L);
        x.write('r');
        x.again(0);
        Check.due("about(10)", x.about(10), 1);
        Check.due("about(11)", x.about(11), 30);
        Check.due("seed(0)", x.seed(0L), 8);
    }

    private static void errors() {
        Check.test("promises 29 and 30, errors");
        MeshParents x = Check.withMesh("M0g0rk01001");
        x.round(1);
        int[] none = {-1, 2, 3, 100, Integer.MIN_VALUE, Integer.MAX_VALUE};
        for (int slot : none) {
            Check.refused("keep(" + slot + ")", x, o -> o.keep(slot), Check.UNKNOWN);
            Check.refused("again(" + slot + ")", x, o -> o.again(slot), Check.UNKNOWN);
        }
        Check.refused("again(0)", x, o -> o.again(0), Check.LATE);
        Check.refused("again(1)", x, o -> o.again(1), Check.LATE);
        x.keep(0);
        Check.refused("again(1) with the other slot", x, o -> o.again(1), Check.LATE);
        Check.due("again(0)", x.again(0), 1);
    }
}
