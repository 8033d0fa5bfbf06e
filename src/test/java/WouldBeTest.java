/** Promises 22 to 25: what would be. */
public final class WouldBeTest {
    private static final int NONE = FaceZones.NONE;
    private static final Check check = new Check("WouldBeTest");

    private static void promise22() {
        FaceZones x = Check.crystal(2, -1, 0);
        check.due("whyNot(2, -1, 0, 0)", x.whyNot(2, -1, 0, 0), 2);
        check.due("whyNot(-8, 4, 0, 0)", x.whyNot(-8, 4, 0, 0), 0);
        check.due("whyNot(8, -4, 0, 0)", x.whyNot(8, -4, 0, 0), 2);
        check.due("whyNot(2, -1, 0, 1)", x.whyNot(2, -1, 0, 1), 0);
        check.due("whyNot(0, 0, 0, 0)", x.whyNot(0, 0, 0, 0), 1);
        check.due("whyNot(0, 0, 0, 1)", x.whyNot(0, 0, 0, 1), 1);
        check.due("whyNot(9, -9, 9, 1)", x.whyNot(9, -9, 9, 1), 0);
        for (int n : new int[] {-10, 10, Integer.MIN_VALUE, Integer.MAX_VALUE}) {
            check.argument("whyNot(" + n + ", 0, 0, 0)", () -> x.whyNot(n, 0, 0, 0));
            check.argument("whyNot(0, " + n + ", 0, 0)", () -> x.whyNot(0, n, 0, 0));
            check.argument("whyNot(0, 0, " + n + ", 0)", () -> x.whyNot(0, 0, n, 0));
        }
        for (int half : new int[] {-1, 2, Integer.MIN_VALUE, Integer.MAX_VALUE}) {
            check.argument("whyNot(0, 0, 0, " + half + ")", () -> x.whyNot(0, 0, 0, half));
        }
        check.due("whyNot adds nothing", x.about(0), 1);
        FaceZones y = Check.crystal(1, 2, 3);
        y.setSystem(3);
        y.addForm(0);
        check.due("whyNot(1, 0, 0, 0) with 16 faces", y.whyNot(1, 0, 0, 0), 3);
        check.due("whyNot(1, 2, 3, 1) with 16 faces", y.whyNot(1, 2, 3, 1), 3);
        check.due("whyNot(2, 1, 3, 0) with 16 faces", y.whyNot(2, 1, 3, 0), 2);
        check.due("whyNot(0, 0, 0, 0) with 16 faces", y.whyNot(0, 0, 0, 0), 1);
        y.remove(3);
        check.due("whyNot(1, 0, 0, 0) with 15 faces", y.whyNot(1, 0, 0, 0), 0);
    }

    private static void promise23() {
        FaceZones x = new FaceZones();
        check.due("bestTwin() without faces", x.bestTwin(), 112);
        x.addFace(1, 0, 0, 0);
        x.addFace(0, 1, 0, 0);
        check.due("bestTwin() without twins", x.bestTwin(), 112);
        x.addFace(1, 0, 1, 1);
        check.due("bestTwin() with the twin 1, 0, 1", x.bestTwin(), 120);
        for (int n = 0; n < 3; n++) {
            check.due("the twin plane stays", x.about(7 + n), 1);
        }
        x.setTwin(0, 1, 1);
        check.due("bestTwin() with another twin plane", x.bestTwin(), 120);
        x.setLeast(3);
        check.due("bestTwin() with m 3", x.bestTwin(), 120);
        x.setLeast(4);
        check.due("bestTwin() if no zone is listed", x.bestTwin(), 112);
        FaceZones y = Check.crystal(0, 1, 0, 0, 0, 1);
        y.addFace(1, 0, 0, 1);
        check.due("bestTwin() with the twin 1, 0, 0", y.bestTwin(), 201);
        // The twins lie in the zone 1, 0, 0 of the first two faces only if both are mirrored in 1, 1, 1.
        FaceZones z = Check.crystal(0, 1, 0, 0, 0, 1);
        z.addFace(2, 1, 0, 1);
        z.addFace(2, 0, 1, 1);
        check.due("bestTwin() with two twins", z.bestTwin(), 222);
        z.setLeast(4);
        check.due("bestTwin() with two twins and m 4", z.bestTwin(), 222);
    }

    private static void promise24() {
        FaceZones x = new FaceZones();
        check.due("keyFace() without faces", x.keyFace(), NONE);
        x.addFace(1, 0, 0, 0);
        check.due("keyFace() of one face", x.keyFace(), 0);
        x.addFace(0, 1, 0, 0);
        x.addFace(0, 0, 1, 0);
        check.due("keyFace() of three alike", x.keyFace(), 0);
        x.addFace(1, 1, 0, 0);
        check.due("keyFace() of the cube", x.keyFace(), 2);
        check.due("keyFace() removes none", x.about(0), 4);
        check.due("zones after keyFace()", x.about(4), 4);
        x.setLeast(3);
        check.due("keyFace() of the cube with m 3", x.keyFace(), 0);
        // Without the face 0, the zone 0, 0, 1 still has three.
        FaceZones y = Check.crystal(0, 0, 1, 1, 0, 0, 0, 1, 0, 1, 1, 0);
        y.setLeast(3);
        check.due("keyFace() beside the only zone", y.keyFace(), 1);
    }

    private static void grows(FaceZones x, int... due) {
        for (int rounds = 0; rounds <= 3; rounds++) {
            check.due("grown(" + rounds + ")", x.grown(rounds), due[rounds]);
        }
    }

    private static void promise25() {
        grows(new FaceZones(), 0, 0, 0, 0);
        grows(Check.crystal(1, 0, 0), 1, 1, 1, 1);
        grows(Check.crystal(1, 0, 0, -1, 0, 0), 1, 1, 1, 1);
        grows(Check.crystal(1, 0, 0, 0, 1, 0), 2, 2, 2, 2);
        grows(Check.crystal(1, 0, 0, 0, 1, 0, 0, 0, 1), 3, 3, 3, 3);
        grows(Check.crystal(-2, 1, 0, 3, 0, 1, 1, 0, 3), 1, 1, 1, 1);
        FaceZones x = Check.crystal(1, 0, 0, 0, 1, 0, 0, 0, 1, 1, 1, 1);
        check.due("grown(0) of four", x.grown(0), 4);
        check.due("grown(1) of four", x.grown(1), 7);
        check.due("grown(2) of four", x.grown(2), 13);
        check.due("grown(3) of four", x.grown(3), 40);
        x.setLeast(6);
        check.due("grown(1) with m 6", x.grown(1), 7);
        check.due("grown adds no face", x.about(0), 4);
        grows(Check.crystal(1, 1, 1, -1, 1, 1, 1, -1, 1, 1, 1, -1), 4, 7, 13, 37);
        x.grown(0);
        x.remove(3);
        check.due("grown(3) after remove", x.grown(3), 3);
        FaceZones y = Check.crystal(1, 0, 0, 0, 1, 0, 0, 0, 1);
        y.addFace(1, 0, 0, 1);
        check.due("grown(0) with the twin in 1, -2, -2", y.grown(0), 4);
        y.setTwin(1, 0, 0);
        check.due("grown(0) with the twin in -1, 0, 0", y.grown(0), 3);
        y.setTwin(2, 1, 0);
        check.due("grown(0) with the twin in -3, -4, 0", y.grown(0), 3);
        for (int rounds : new int[] {-1, 4, Integer.MIN_VALUE, Integer.MAX_VALUE}) {
            check.argument("grown(" + rounds + ")", () -> y.grown(rounds));
        }
    }

    public static void main(String[] args) {
        promise22();
        promise23();
        promise24();
        promise25();
        check.end();
    }
}
