/** Promises 14 to 21: the actions and undo. */
public final class ActionTest {
    private static final Check check = new Check("ActionTest");

    private static void faceIs(FaceZones x, int i, int... due) {
        for (int what = 0; what < due.length; what++) {
            check.due("face(" + i + ", " + what + ")", x.face(i, what), due[what]);
        }
    }

    /** An object with 16 faces of half 0: the form of 1, 2, 3 with the system 3. */
    private static FaceZones full() {
        FaceZones x = Check.crystal(1, 2, 3);
        x.setSystem(3);
        x.addForm(0);
        return x;
    }

    private static void undoes(String what, FaceZones x, int left) {
        check.due("undo() after " + what, x.undo(), left);
    }

    private static void promise14() {
        FaceZones x = new FaceZones();
        check.due("addFace(4, -2, 0, 0)", x.addFace(4, -2, 0, 0), 0);
        faceIs(x, 0, 2, -1, 0, 0);
        check.due("addFace(-9, -9, -9, 1)", x.addFace(-9, -9, -9, 1), 1);
        faceIs(x, 1, -1, -1, -1, 1);
        check.due("addFace(9, 9, 9, 1)", x.addFace(9, 9, 9, 1), 2);
        faceIs(x, 2, 1, 1, 1, 1);
        check.due("addFace(1, 1, 1, 0)", x.addFace(1, 1, 1, 0), 3);
        check.due("addFace(0, 0, -7, 0)", x.addFace(0, 0, -7, 0), 4);
        faceIs(x, 4, 0, 0, -1, 0);
        check.due("addFace(6, 9, -3, 0)", x.addFace(6, 9, -3, 0), 5);
        faceIs(x, 5, 2, 3, -1, 0);
        for (int n : new int[] {-10, 10, Integer.MIN_VALUE, Integer.MAX_VALUE}) {
            check.argument("addFace(" + n + ", 1, 1, 0)", () -> x.addFace(n, 1, 1, 0));
            check.argument("addFace(1, " + n + ", 1, 0)", () -> x.addFace(1, n, 1, 0));
            check.argument("addFace(1, 1, " + n + ", 0)", () -> x.addFace(1, 1, n, 0));
        }
        for (int half : new int[] {-1, 2, Integer.MIN_VALUE, Integer.MAX_VALUE}) {
            check.argument("addFace(2, -1, 0, " + half + ")", () -> x.addFace(2, -1, 0, half));
        }
        check.argument("addFace(0, 0, 0, 0)", () -> x.addFace(0, 0, 0, 0));
        check.state("addFace(2, -1, 0, 0) again", () -> x.addFace(2, -1, 0, 0));
        check.state("addFace(8, -4, 0, 0) again", () -> x.addFace(8, -4, 0, 0));
        undoes("six faces and refused ones", x, 5);
        FaceZones y = full();
        check.state("addFace to 16 faces", () -> y.addFace(1, 0, 0, 0));
        check.state("addFace of a face to 16 faces", () -> y.addFace(1, 2, 3, 0));
        check.argument("addFace(0, 0, 0, 1) to 16 faces", () -> y.addFace(0, 0, 0, 1));
        check.argument("addFace(1, 0, 0, 2) to 16 faces", () -> y.addFace(1, 0, 0, 2));
        undoes("refused faces", y, 2);
    }

    private static void promise15() {
        FaceZones x = Check.crystal(0, 1, 0, 1, 1, 1);
        check.due("addForm(0) with the system 0", x.addForm(0), 1);
        faceIs(x, 2, 0, -1, 0, 0);
        x.setSystem(3);
        check.due("addForm(0) with the system 3", x.addForm(0), 2);
        faceIs(x, 3, 1, 0, 0, 0);
        faceIs(x, 4, -1, 0, 0, 0);
        check.due("addForm(0) again", x.addForm(0), 0);
        undoes("a form that adds nothing", x, 5);
        check.due("faces after that", x.about(0), 5);
        undoes("a form", x, 4);
        check.due("faces before the form", x.about(0), 3);
        FaceZones y = Check.crystal(-1, -1, 1);
        y.addFace(1, 2, 0, 1);
        y.setSystem(2);
        check.due("addForm(0) with the system 2", y.addForm(0), 7);
        int[][] due = {{1, 1, 1}, {1, 1, -1}, {1, -1, 1}, {1, -1, -1}, {-1, 1, 1}, {-1, 1, -1}, {-1, -1, -1}};
        for (int n = 0; n < due.length; n++) {
            faceIs(y, n + 2, due[n][0], due[n][1], due[n][2], 0);
        }
        y.setSystem(1);
        check.due("addForm(1) with the system 1", y.addForm(1), 3);
        faceIs(y, 9, 1, -2, 0, 1);
        faceIs(y, 10, -1, 2, 0, 1);
        faceIs(y, 11, -1, -2, 0, 1);
        FaceZones z = Check.crystal(0, 0, 1);
        z.setSystem(4);
        check.due("addForm(0) with the system 4", z.addForm(0), 5);
        int[][] cube = {{0, 0, 1}, {1, 0, 0}, {0, 1, 0}, {0, 0, -1}, {0, -1, 0}, {-1, 0, 0}};
        for (int n = 0; n < cube.length; n++) {
            faceIs(z, n, cube[n][0], cube[n][1], cube[n][2], 0);
        }
    }

    private static void promise15Limits() {
        FaceZones x = Check.crystal(1, 2, 3);
        x.setSystem(3);
        check.due("addForm(0) up to 16 faces", x.addForm(0), 15);
        check.due("addForm(7) with 16 faces and none missing", x.addForm(7), 0);
        FaceZones y = Check.crystal(1, 2, 3, 1, 0, 0);
        y.setSystem(3);
        check.state("addForm(0) to 17 faces", () -> y.addForm(0));
        check.due("faces of the form are counted once", y.addFace(2, 1, 3, 0), 2);
        check.state("addForm(2) to 17 faces", () -> y.addForm(2));
        y.setSystem(4);
        check.state("addForm(0) with 48 indices", () -> y.addForm(0));
        for (int i : new int[] {-1, 3, Integer.MIN_VALUE, Integer.MAX_VALUE}) {
            check.index("addForm(" + i + ")", () -> y.addForm(i));
        }
        undoes("refused forms", y, 4);
        FaceZones small = Check.crystal(1, 2, 3, 1, 0, 0);
        small.setSystem(4);
        check.due("the form of 1, 2, 3", small.face(0, 8), 48);
        small.setSystem(0);
        check.due("addForm(1) after a greater form", small.addForm(1), 1);
        check.due("faces then", small.about(0), 3);
        FaceZones z = full();
        z.remove(0);
        z.twin(0);
        z.setSystem(0);
        check.state("addForm of the other half to 17 faces", () -> z.addForm(15));
    }

    private static void promise16() {
        FaceZones x = Check.crystal(1, 2, 3, 1, 0, 0);
        check.due("twin(0)", x.twin(0), 2);
        faceIs(x, 2, 1, 2, 3, 1);
        check.state("twin(0) again", () -> x.twin(0));
        check.state("twin(2)", () -> x.twin(2));
        x.remove(0);
        check.due("twin of a twin", x.twin(1), 2);
        faceIs(x, 2, 1, 2, 3, 0);
        for (int i : new int[] {-1, 3, Integer.MIN_VALUE, Integer.MAX_VALUE}) {
            check.index("twin(" + i + ")", () -> x.twin(i));
        }
        undoes("twins", x, 4);
        FaceZones y = full();
        check.state("twin with 16 faces", () -> y.twin(3));
        check.index("twin(16) with 16 faces", () -> y.twin(16));
    }

    private static void promise17() {
        FaceZones x = Check.crystal(1, 0, 0, 0, 1, 0, 0, 0, 1);
        x.addFace(1, 1, 1, 1);
        check.due("remove(1)", x.remove(1), 3);
        faceIs(x, 0, 1, 0, 0, 0);
        faceIs(x, 1, 0, 0, 1, 0);
        faceIs(x, 2, 1, 1, 1, 1);
        check.index("face(3, 0) then", () -> x.face(3, 0));
        check.due("zones then", x.about(4), 3);
        check.due("remove(2)", x.remove(2), 2);
        check.due("remove(0)", x.remove(0), 1);
        faceIs(x, 0, 0, 0, 1, 0);
        for (int i : new int[] {-1, 1, Integer.MIN_VALUE, Integer.MAX_VALUE}) {
            check.index("remove(" + i + ")", () -> x.remove(i));
        }
        undoes("removals", x, 6);
        check.due("faces after undo", x.about(0), 2);
        FaceZones y = full();
        check.due("remove(15) of 16", y.remove(15), 15);
        check.due("addFace then", y.addFace(1, 0, 0, 0), 15);
        check.due("remove(0) of 16", y.remove(0), 15);
    }

    private static void promise18() {
        FaceZones x = Check.crystal(1, 2, 3);
        int before = 0;
        for (int system : new int[] {4, 1, 1, 3, 2, 0}) {
            check.due("setSystem(" + system + ")", x.setSystem(system), before);
            check.due("about(2) then", x.about(2), system);
            before = system;
        }
        for (int system : new int[] {-1, 5, Integer.MIN_VALUE, Integer.MAX_VALUE}) {
            check.argument("setSystem(" + system + ")", () -> x.setSystem(system));
        }
        undoes("six systems", x, 6);
        check.due("about(2) after undo", x.about(2), 2);
    }

    private static void promise19() {
        FaceZones x = Check.crystal(1, 0, 0, 0, 1, 0, 0, 0, 1, 1, 1, 0, 1, -1, 0, 2, 1, 0);
        int[] due = {0, 0, 6, 1, 1, 1, 0};
        for (int m = 6; m >= 2; m--) {
            check.due("setLeast(" + m + ")", x.setLeast(m), due[m]);
            check.due("about(3) then", x.about(3), m);
            check.due("about(4) then", x.about(4), due[m]);
        }
        for (int m : new int[] {1, 7, Integer.MIN_VALUE, Integer.MAX_VALUE}) {
            check.argument("setLeast(" + m + ")", () -> x.setLeast(m));
        }
        undoes("five values of m", x, 10);
        check.due("about(3) after undo", x.about(3), 3);
        check.due("about(4) after undo", x.about(4), 1);
    }

    private static void planeIs(FaceZones x, int p, int q, int r) {
        int[] due = {p, q, r};
        for (int n = 0; n < 3; n++) {
            check.due("about(" + (7 + n) + ")", x.about(7 + n), due[n]);
        }
    }

    private static void promise20() {
        FaceZones x = Check.crystal(1, 0, 0, 0, 1, 0);
        x.addFace(1, 0, 1, 1);
        check.due("setTwin(0, 1, -1)", x.setTwin(0, 1, -1), 1);
        planeIs(x, 0, 1, -1);
        check.due("setTwin(2, -2, 0)", x.setTwin(2, -2, 0), 3);
        planeIs(x, 1, -1, 0);
        x.setTwin(0, -3, 0);
        planeIs(x, 0, -1, 0);
        x.setTwin(-3, -3, -3);
        planeIs(x, -1, -1, -1);
        x.setTwin(3, -2, 2);
        planeIs(x, 3, -2, 2);
        for (int n : new int[] {-4, 4, Integer.MIN_VALUE, Integer.MAX_VALUE}) {
            check.argument("setTwin(" + n + ", 1, 1)", () -> x.setTwin(n, 1, 1));
            check.argument("setTwin(1, " + n + ", 1)", () -> x.setTwin(1, n, 1));
            check.argument("setTwin(1, 1, " + n + ")", () -> x.setTwin(1, 1, n));
        }
        check.argument("setTwin(0, 0, 0)", () -> x.setTwin(0, 0, 0));
        undoes("five twin planes", x, 7);
        planeIs(x, -1, -1, -1);
        check.due("face 2 is mirrored in the plane before", x.face(2, 4), -1);
        x.setLeast(4);
        check.due("setTwin with m 4", x.setTwin(0, 1, -1), 0);
    }

    private static void promise21() {
        FaceZones x = new FaceZones();
        for (int n = 1; n <= 9; n++) {
            x.addFace(n, 1, 0, 0);
        }
        for (int n = 1; n <= 7; n++) {
            x.addFace(n, 0, 1, 1);
        }
        for (int left = 13; left >= 0; left--) {
            undoes("16 faces", x, left);
            check.due("faces with " + left + " states left", x.about(0), left + 2);
        }
        check.state("undo() of a forgotten state", x::undo);
        faceIs(x, 1, 2, 1, 0, 0);
        check.due("addFace after undo", x.addFace(5, 1, 0, 0), 2);
        undoes("one more", x, 0);
        FaceZones y = Check.crystal(1, 0, 0, 0, 1, 0);
        y.addForm(0);
        y.twin(0);
        y.remove(1);
        y.setSystem(0);
        y.setLeast(2);
        y.setTwin(1, 1, 1);
        for (int left = 7; left >= 0; left--) {
            undoes("one action of each kind", y, left);
        }
        check.due("about(0) at the start", y.about(0), 0);
    }

    private static void undoBringsAllBack() {
        FaceZones x = Check.crystal(1, 0, 0, 0, 1, 0);
        x.setSystem(3);
        x.setLeast(3);
        x.setTwin(2, 1, 0);
        java.util.List<Long> before = Check.view(x);
        x.remove(0);
        x.setSystem(1);
        x.setLeast(2);
        x.setTwin(1, 0, 0);
        for (int n = 0; n < 4; n++) {
            x.undo();
        }
        check.isTrue("undo brings back all that can be seen", Check.view(x).equals(before));
        Check.tell(x, "X1");
        x.save(0);
        check.due("undo() after append and save", x.undo(), 4);
        check.due("the text is not undone", x.clearText(), 2);
        check.due("the slot is not undone", x.restore(0), 2);
        check.due("q in the slot", x.about(8), 1);
    }

    /** The calls of the other sections are no actions. */
    private static void noActions() {
        FaceZones x = Check.crystal(1, 0, 0, 0, 1, 0, 0, 0, 1);
        x.append('X');
        x.errorPosition();
        x.clearText();
        x.zoneOf(0, 1);
        x.cross(0, 1, 0);
        x.whyNot(1, 1, 1, 0);
        x.bestTwin();
        x.keyFace();
        x.grown(3);
        x.runScript(1, 10110);
        x.simulate(1, 99);
        x.save(1);
        undoes("three faces and calls that are no actions", x, 2);
        check.due("faces then", x.about(0), 2);
    }

    public static void main(String[] args) {
        promise14();
        promise15();
        promise15Limits();
        promise16();
        promise17();
        promise18();
        promise19();
        promise20();
        promise21();
        undoBringsAllBack();
        noActions();
        check.end();
    }
}
