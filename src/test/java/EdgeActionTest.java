import java.util.List;
import java.util.function.Supplier;
import java.util.function.ToLongFunction;

/** The boundary cases of promises 14 to 21: the actions and undo. */
public final class EdgeActionTest {
    private static final int LEAST_INT = Integer.MIN_VALUE;
    private static final int GREATEST_INT = Integer.MAX_VALUE;
    private static final int[] WRONG_INDICES = {-10, 10, LEAST_INT, GREATEST_INT};
    private static final int[] WRONG_HALVES = {-1, 2, LEAST_INT, GREATEST_INT};

    private static void faceIs(Check check, FaceZones x, int i, int... due) {
        for (int what = 0; what < due.length; what++) {
            check.due("face(" + i + ", " + what + ")", x.face(i, what), due[what]);
        }
    }

    private static void planeIs(Check check, FaceZones x, int... due) {
        for (int n = 0; n < 3; n++) {
            check.due("about(" + (7 + n) + ")", x.about(7 + n), due[n]);
        }
    }

    private static FaceZones fifteen() {
        FaceZones x = Crystals.full();
        x.remove(15);
        return x;
    }

    private static FaceZones emptied() {
        FaceZones x = Crystals.one();
        x.remove(0);
        return x;
    }

    /** The call is an action: one more state is remembered, and undo brings back all that was there before. */
    private static void isAction(Check check, String call, Supplier<FaceZones> make, ToLongFunction<FaceZones> run) {
        int remembered = 0;
        FaceZones counted = make.get();
        while (remembered < 14 && undoes(counted)) {
            remembered++;
        }
        FaceZones x = make.get();
        List<Long> before = Check.view(x);
        run.applyAsLong(x);
        check.due("undo() after " + call, x.undo(), Math.min(remembered, 13));
        check.isTrue("undo() takes " + call + " back", Check.view(x).equals(before));
    }

    private static boolean undoes(FaceZones x) {
        try {
            x.undo();
            return true;
        } catch (IllegalStateException e) {
            return false;
        }
    }

    // ---- promise 14

    static void promise14IndicesAreFromMinus9To9(Check check) {
        for (int n : new int[] {-9, -8, 8, 9}) {
            int[][] faces = {{n, 7, -1}, {7, n, -1}, {7, -1, n}};
            for (int[] f : faces) {
                FaceZones x = new FaceZones();
                check.due("addFace(" + f[0] + ", " + f[1] + ", " + f[2] + ", 0)", x.addFace(f[0], f[1], f[2], 0), 0);
                faceIs(check, x, 0, f[0], f[1], f[2], 0);
            }
        }
    }

    private static void refusedFace(Check check, int h, int k, int l, int half) {
        String call = "addFace(" + h + ", " + k + ", " + l + ", " + half + ")";
        check.argument(call, Crystals::dressed, x -> x.addFace(h, k, l, half));
        check.argument(call + " without faces", FaceZones::new, x -> x.addFace(h, k, l, half));
        check.argument(call + " with 16 faces", Crystals::crowded, x -> x.addFace(h, k, l, half));
    }

    static void promise14IndicesOutOfRangeAreRefused(Check check) {
        for (int n : WRONG_INDICES) {
            refusedFace(check, n, 1, 2, 0);
            refusedFace(check, 1, n, 2, 0);
            refusedFace(check, 1, 2, n, 1);
            refusedFace(check, n, 0, 0, 0);
            refusedFace(check, 0, n, 0, 1);
            refusedFace(check, 0, 0, n, 0);
        }
    }

    static void promise14TheHalfIs0Or1(Check check) {
        for (int half = 0; half <= 1; half++) {
            FaceZones x = new FaceZones();
            check.due("addFace(1, 2, 3, " + half + ")", x.addFace(1, 2, 3, half), 0);
            faceIs(check, x, 0, 1, 2, 3, half);
        }
    }

    static void promise14HalfOutOfRangeIsRefused(Check check) {
        for (int half : WRONG_HALVES) {
            refusedFace(check, 1, 2, 3, half);
        }
    }

    static void promise14AllIndices0IsRefused(Check check) {
        refusedFace(check, 0, 0, 0, 0);
        refusedFace(check, 0, 0, 0, 1);
    }

    static void promise14TheArgumentIsNamedFirst(Check check) {
        for (int half : WRONG_HALVES) {
            check.argument("addFace(1, 0, 0, half) of a face that is there", Crystals::dressed,
                x -> x.addFace(1, 0, 0, half));
            check.argument("addFace(0, 0, 0, half)", Crystals::crowded, x -> x.addFace(0, 0, 0, half));
        }
        for (int n : WRONG_INDICES) {
            check.argument("addFace(n, 0, 0, 0), parallel to one", Crystals::dressed, x -> x.addFace(n, 0, 0, 0));
        }
    }

    static void promise14TwoIndicesMayBe0(Check check) {
        FaceZones x = new FaceZones();
        x.addFace(-1, 0, 0, 0);
        x.addFace(0, -1, 0, 0);
        x.addFace(0, 0, -1, 0);
        faceIs(check, x, 0, -1, 0, 0);
        faceIs(check, x, 1, 0, -1, 0);
        faceIs(check, x, 2, 0, 0, -1);
    }

    static void promise14IndicesAreDivided(Check check) {
        int[][] rows = {{4, -2, 0, 2, -1, 0}, {9, 9, 9, 1, 1, 1}, {-9, -9, -9, -1, -1, -1}, {-6, 9, 3, -2, 3, 1},
            {0, 0, -9, 0, 0, -1}, {0, 8, -4, 0, 2, -1}, {-8, 0, 6, -4, 0, 3}, {7, 0, 0, 1, 0, 0}, {5, 5, -5, 1, 1, -1},
            {6, 4, 3, 6, 4, 3}, {9, -8, 7, 9, -8, 7}, {2, 2, 3, 2, 2, 3}};
        for (int[] row : rows) {
            FaceZones x = new FaceZones();
            x.addFace(row[0], row[1], row[2], 1);
            faceIs(check, x, 0, row[3], row[4], row[5], 1);
        }
    }

    static void promise14SuchAFaceIsRefused(Check check) {
        check.state("addFace(1, 0, 0, 0)", Crystals::dressed, x -> x.addFace(1, 0, 0, 0));
        check.state("addFace(9, 0, 0, 0)", Crystals::dressed, x -> x.addFace(9, 0, 0, 0));
        check.state("addFace(1, 2, 0, 1)", Crystals::dressed, x -> x.addFace(1, 2, 0, 1));
        check.state("addFace(4, 8, 0, 1)", Crystals::dressed, x -> x.addFace(4, 8, 0, 1));
    }

    static void promise14TheSameIndicesWithTheOtherHalfAreNoSuchFace(Check check) {
        check.due("addFace(1, 0, 0, 1)", Crystals.dressed().addFace(1, 0, 0, 1), 3);
        check.due("addFace(1, 2, 0, 0)", Crystals.dressed().addFace(1, 2, 0, 0), 3);
    }

    static void promise14AParallelFaceIsNoSuchFace(Check check) {
        check.due("addFace(-1, 0, 0, 0)", Crystals.dressed().addFace(-1, 0, 0, 0), 3);
        // The twin of 1, -1, 0 has the same direction as it.
        FaceZones x = Check.crystal(1, -1, 0);
        check.due("addFace(1, -1, 0, 1)", x.addFace(1, -1, 0, 1), 1);
        check.due("face(1, 4)", x.face(1, 4), 1);
    }

    static void promise14TheFirstFaceIsNumber0(Check check) {
        check.due("addFace", new FaceZones().addFace(1, 2, 3, 0), 0);
        check.due("addFace after the only one was removed", emptied().addFace(1, 2, 3, 0), 0);
    }

    static void promise14TheSixteenthFaceIsNumber15(Check check) {
        FaceZones x = fifteen();
        check.due("addFace", x.addFace(1, 0, 0, 1), 15);
        check.due("about(0)", x.about(0), 16);
        faceIs(check, x, 15, 1, 0, 0, 1);
    }

    static void promise14TheSeventeenthFaceIsRefused(Check check) {
        check.state("addFace(1, 0, 0, 0)", Crystals::full, x -> x.addFace(1, 0, 0, 0));
        check.state("addFace(-1, 0, 0, 1)", Crystals::crowded, x -> x.addFace(-1, 0, 0, 1));
    }

    static void promise14SuchAFaceAmongSixteenIsRefused(Check check) {
        check.state("addFace(1, 2, 3, 0)", Crystals::full, x -> x.addFace(1, 2, 3, 0));
        check.state("addFace(1, 0, 0, 0)", Crystals::crowded, x -> x.addFace(1, 0, 0, 0));
    }

    static void promise14AFaceFitsAgainAfterARemoval(Check check) {
        FaceZones x = Crystals.crowded();
        x.remove(0);
        check.due("addFace of the removed face", x.addFace(1, 0, 0, 0), 15);
        check.state("addFace then", () -> x.addFace(0, 0, 1, 0));
    }

    static void promise14IsAnAction(Check check) {
        isAction(check, "addFace", FaceZones::new, x -> x.addFace(1, 2, 3, 1));
        isAction(check, "addFace", Crystals::dressed, x -> x.addFace(4, -2, 0, 0));
        isAction(check, "addFace", EdgeActionTest::fifteen, x -> x.addFace(1, 0, 0, 1));
    }

    // ---- promise 15

    static void promise15NoFace(Check check) {
        check.index("addForm(0) without faces", FaceZones::new, x -> x.addForm(0));
        check.index("addForm(0) of a removed face", EdgeActionTest::emptied, x -> x.addForm(0));
    }

    static void promise15FacesThatDoNotExist(Check check) {
        for (int i : new int[] {-1, 3, LEAST_INT, GREATEST_INT}) {
            check.index("addForm(" + i + ")", Crystals::dressed, x -> x.addForm(i));
        }
        check.index("addForm(1) of one face", Crystals::one, x -> x.addForm(1));
    }

    static void promise15TheFaceIsNamedFirst(Check check) {
        check.index("addForm(16) with 16 faces", Crystals::crowded, x -> x.addForm(16));
        check.index("addForm(-1) with 16 faces", Crystals::crowded, x -> x.addForm(-1));
        check.index("addForm(1) of one face with 48 in its form", () -> {
            FaceZones x = Crystals.one();
            x.setSystem(4);
            return x;
        }, x -> x.addForm(1));
    }

    static void promise15TheLastFace(Check check) {
        FaceZones x = fifteen();
        x.setSystem(0);
        x.remove(0);
        x.addFace(1, 0, 0, 0);
        check.due("addForm(14)", x.addForm(14), 1);
        faceIs(check, x, 15, -1, 0, 0, 0);
        check.due("addForm(15)", x.addForm(15), 0);
    }

    static void promise15UpToSixteenFaces(Check check) {
        FaceZones x = Crystals.one();
        x.setSystem(3);
        check.due("addForm(0)", x.addForm(0), 15);
        check.due("about(0)", x.about(0), 16);
        FaceZones y = Check.crystal(1, 2, 3, 4, 5, 6, 7, 8, 9, 1, 1, 0, 1, 0, 1, 0, 1, 1, 1, 1, 1, 1, 0, 0, 1, 1, 2);
        y.setSystem(2);
        check.due("addForm(0) with nine faces", y.addForm(0), 7);
        check.due("about(0)", y.about(0), 16);
    }

    static void promise15SeventeenFacesAreRefused(Check check) {
        check.state("addForm(0) of sixteen beside another face", () -> {
            FaceZones x = Check.crystal(1, 2, 3, 1, 0, 0);
            x.setSystem(3);
            x.save(1);
            return x;
        }, x -> x.addForm(0));
        check.state("addForm(0) of one face more with 16 faces", () -> {
            FaceZones x = Crystals.full();
            x.remove(15);
            x.addFace(1, 0, 0, 0);
            return x;
        }, x -> x.addForm(0));
        check.state("addForm(0)", Crystals::crowded, x -> x.addForm(0));
    }

    static void promise15FortyEightFacesAreRefused(Check check) {
        check.state("addForm(0)", () -> {
            FaceZones x = Crystals.one();
            x.setSystem(4);
            return x;
        }, x -> x.addForm(0));
    }

    static void promise15WholeFormAmongSixteenFaces(Check check) {
        FaceZones x = Crystals.full();
        for (int i = 0; i < 16; i++) {
            check.due("addForm(" + i + ")", x.addForm(i), 0);
        }
        check.due("about(0)", x.about(0), 16);
        x.setSystem(2);
        check.due("addForm(0) with another system", x.addForm(0), 0);
    }

    /** The face and then those that addForm(0) adds to it, in their order. */
    private static void formIs(Check check, int system, int half, int... due) {
        FaceZones x = new FaceZones();
        x.addFace(due[0], due[1], due[2], half);
        x.setSystem(system);
        check.due("addForm(0) in the system " + system, x.addForm(0), due.length / 3 - 1);
        for (int i = 0; i < due.length / 3; i++) {
            faceIs(check, x, i, due[3 * i], due[3 * i + 1], due[3 * i + 2], half);
        }
    }

    static void promise15OrderWithTheSystem0(Check check) {
        formIs(check, 0, 0, 1, 2, 3, -1, -2, -3);
        formIs(check, 0, 1, 0, -1, 0, 0, 1, 0);
    }

    static void promise15OrderWithTheSystem1(Check check) {
        formIs(check, 1, 0, 1, 2, 3, 1, -2, 3, -1, 2, -3, -1, -2, -3);
        formIs(check, 1, 1, -1, 2, 3, 1, 2, -3, 1, -2, -3, -1, -2, 3);
        formIs(check, 1, 0, -1, 0, 1, 1, 0, -1);
        formIs(check, 1, 0, 0, 1, 1, 0, 1, -1, 0, -1, 1, 0, -1, -1);
    }

    static void promise15OrderWithTheSystem2(Check check) {
        formIs(check, 2, 1, -1, 2, -3, 1, 2, 3, 1, 2, -3, 1, -2, 3, 1, -2, -3, -1, 2, 3, -1, -2, 3, -1, -2, -3);
        formIs(check, 2, 0, 1, 0, -2, 1, 0, 2, -1, 0, 2, -1, 0, -2);
    }

    static void promise15OrderWithTheSystem3(Check check) {
        formIs(check, 3, 0, 1, 2, 3, 2, 1, 3, 2, 1, -3, 2, -1, 3, 2, -1, -3, 1, 2, -3, 1, -2, 3, 1, -2, -3,
            -1, 2, 3, -1, 2, -3, -1, -2, 3, -1, -2, -3, -2, 1, 3, -2, 1, -3, -2, -1, 3, -2, -1, -3);
        formIs(check, 3, 1, 0, 1, 0, 1, 0, 0, 0, -1, 0, -1, 0, 0);
        formIs(check, 3, 0, 0, 0, -1, 0, 0, 1);
    }

    static void promise15OrderWithTheSystem4(Check check) {
        formIs(check, 4, 1, 0, 1, 1, 1, 1, 0, 1, 0, 1, 1, 0, -1, 1, -1, 0, 0, 1, -1, 0, -1, 1, 0, -1, -1,
            -1, 1, 0, -1, 0, 1, -1, 0, -1, -1, -1, 0);
        formIs(check, 4, 0, 0, 0, 1, 1, 0, 0, 0, 1, 0, 0, 0, -1, 0, -1, 0, -1, 0, 0);
    }

    static void promise15FacesThatAreThereKeepTheirPlaces(Check check) {
        FaceZones x = Check.crystal(0, -1, 0, 0, 0, 1, -1, 0, 0);
        x.addFace(1, 0, 0, 1);
        x.setSystem(4);
        check.due("addForm(1)", x.addForm(1), 3);
        int[][] due = {{0, -1, 0, 0}, {0, 0, 1, 0}, {-1, 0, 0, 0}, {1, 0, 0, 1}, {1, 0, 0, 0}, {0, 1, 0, 0},
            {0, 0, -1, 0}};
        for (int i = 0; i < due.length; i++) {
            faceIs(check, x, i, due[i]);
        }
    }

    static void promise15AfterAGreaterForm(Check check) {
        FaceZones x = Check.crystal(1, 2, 3, 1, 0, 0);
        x.setSystem(4);
        check.due("face(0, 8)", x.face(0, 8), 48);
        x.setSystem(0);
        check.due("addForm(1)", x.addForm(1), 1);
        check.due("about(0)", x.about(0), 3);
        faceIs(check, x, 2, -1, 0, 0, 0);
    }

    static void promise15TheOtherHalfIsNotOfTheForm(Check check) {
        FaceZones x = Crystals.full();
        x.remove(0);
        x.twin(0);
        x.setSystem(0);
        check.state("addForm(15) of a face of half 1 to 17 faces", () -> x.addForm(15));
        x.remove(0);
        check.due("addForm(14) of the same face to 16", x.addForm(14), 1);
        check.due("its half", x.face(15, 3), 1);
    }

    static void promise15IsAnActionAlsoIfItAddsNone(Check check) {
        isAction(check, "addForm", Crystals::full, x -> x.addForm(0));
        isAction(check, "addForm", Crystals::one, x -> x.addForm(0));
        isAction(check, "addForm", Crystals::dressed, x -> x.addForm(2));
    }

    // ---- promise 16

    static void promise16NoFace(Check check) {
        check.index("twin(0) without faces", FaceZones::new, x -> x.twin(0));
        check.index("twin(0) of a removed face", EdgeActionTest::emptied, x -> x.twin(0));
    }

    static void promise16FacesThatDoNotExist(Check check) {
        for (int i : new int[] {-1, 3, LEAST_INT, GREATEST_INT}) {
            check.index("twin(" + i + ")", Crystals::dressed, x -> x.twin(i));
        }
        check.index("twin(1) of one face", Crystals::one, x -> x.twin(1));
    }

    static void promise16TheFaceIsNamedFirst(Check check) {
        check.index("twin(16) with 16 faces", Crystals::crowded, x -> x.twin(16));
        check.index("twin(-1) with 16 faces", Crystals::crowded, x -> x.twin(-1));
    }

    static void promise16BothHalves(Check check) {
        FaceZones x = Crystals.one();
        check.due("twin(0)", x.twin(0), 1);
        faceIs(check, x, 1, 1, 2, 3, 1);
        x.remove(0);
        check.due("twin(0) of half 1", x.twin(0), 1);
        faceIs(check, x, 1, 1, 2, 3, 0);
    }

    static void promise16SuchAFaceIsRefused(Check check) {
        Supplier<FaceZones> both = () -> {
            FaceZones x = Crystals.dressed();
            x.twin(2);
            return x;
        };
        check.state("twin(2)", both, x -> x.twin(2));
        check.state("twin(3)", both, x -> x.twin(3));
    }

    static void promise16TheSixteenthFace(Check check) {
        FaceZones x = fifteen();
        check.due("twin(14)", x.twin(14), 15);
        faceIs(check, x, 15, x.face(14, 0), x.face(14, 1), x.face(14, 2), 1);
    }

    static void promise16TheSeventeenthFaceIsRefused(Check check) {
        check.state("twin(15)", Crystals::full, x -> x.twin(15));
        check.state("twin(0)", Crystals::crowded, x -> x.twin(0));
    }

    static void promise16SuchAFaceAmongSixteenIsRefused(Check check) {
        Supplier<FaceZones> make = () -> {
            FaceZones x = fifteen();
            x.twin(0);
            return x;
        };
        check.state("twin(0)", make, x -> x.twin(0));
        check.state("twin(15)", make, x -> x.twin(15));
    }

    static void promise16IsAnAction(Check check) {
        isAction(check, "twin", Crystals::dressed, x -> x.twin(2));
        isAction(check, "twin", EdgeActionTest::fifteen, x -> x.twin(0));
    }

    // ---- promise 17

    static void promise17NoFace(Check check) {
        check.index("remove(0) without faces", FaceZones::new, x -> x.remove(0));
        check.index("remove(0) of a removed face", EdgeActionTest::emptied, x -> x.remove(0));
        check.index("remove(-1) without faces", FaceZones::new, x -> x.remove(-1));
    }

    static void promise17OneFace(Check check) {
        FaceZones x = Crystals.one();
        check.due("remove(0)", x.remove(0), 0);
        check.index("face(0, 0)", () -> x.face(0, 0));
        check.index("remove(1) of one face", Crystals::one, y -> y.remove(1));
    }

    static void promise17FacesThatDoNotExist(Check check) {
        for (int i : new int[] {-1, 3, LEAST_INT, GREATEST_INT}) {
            check.index("remove(" + i + ")", Crystals::dressed, x -> x.remove(i));
        }
        check.index("remove(16) of sixteen", Crystals::crowded, x -> x.remove(16));
        check.index("remove(-1) of sixteen", Crystals::crowded, x -> x.remove(-1));
    }

    static void promise17EachOfSixteenFaces(Check check) {
        for (int i = 0; i < 16; i++) {
            FaceZones x = Crystals.crowded();
            FaceZones y = Crystals.crowded();
            check.due("remove(" + i + ")", x.remove(i), 15);
            for (int n = 0; n < 15; n++) {
                int was = n < i ? n : n + 1;
                faceIs(check, x, n, y.face(was, 0), y.face(was, 1), y.face(was, 2), y.face(was, 3));
            }
            check.index("face(15, 0)", () -> x.face(15, 0));
        }
    }

    static void promise17DownToNone(Check check) {
        FaceZones x = Crystals.crowded();
        for (int left = 15; left >= 0; left--) {
            check.due("remove(0)", x.remove(0), left);
        }
        check.index("remove(0)", () -> x.remove(0));
    }

    static void promise17IsAnAction(Check check) {
        isAction(check, "remove(0)", Crystals::one, x -> x.remove(0));
        isAction(check, "remove(2)", Crystals::dressed, x -> x.remove(2));
        isAction(check, "remove(0)", Crystals::crowded, x -> x.remove(0));
        isAction(check, "remove(15)", Crystals::crowded, x -> x.remove(15));
    }

    // ---- promise 18

    static void promise18SystemsAreFrom0To4(Check check) {
        for (int before = 0; before <= 4; before++) {
            for (int system = 0; system <= 4; system++) {
                FaceZones x = Crystals.dressed();
                x.setSystem(before);
                check.due("setSystem(" + system + ")", x.setSystem(system), before);
                check.due("about(2)", x.about(2), system);
            }
        }
    }

    static void promise18SystemsOutOfRangeAreRefused(Check check) {
        for (int system : new int[] {-1, 5, LEAST_INT, GREATEST_INT}) {
            check.argument("setSystem(" + system + ")", Crystals::dressed, x -> x.setSystem(system));
            check.argument("setSystem(" + system + ") without faces", FaceZones::new, x -> x.setSystem(system));
        }
    }

    static void promise18KeepsTheFaces(Check check) {
        FaceZones x = Crystals.crowded();
        x.setSystem(0);
        check.due("about(0)", x.about(0), 16);
        check.due("about(4)", x.about(4), Crystals.crowded().about(4));
    }

    static void promise18IsAnActionAlsoIfNothingChanges(Check check) {
        isAction(check, "setSystem(0)", FaceZones::new, x -> x.setSystem(0));
        isAction(check, "setSystem(3)", Crystals::dressed, x -> x.setSystem(3));
        isAction(check, "setSystem(4)", Crystals::crowded, x -> x.setSystem(4));
    }

    // ---- promise 19

    static void promise19MIsFrom2To6(Check check) {
        int[] due = {0, 0, 6, 1, 1, 1, 0};
        for (int m = 2; m <= 6; m++) {
            FaceZones x = Check.crystal(1, 0, 0, 0, 1, 0, 0, 0, 1, 1, 1, 0, 1, -1, 0, 2, 1, 0);
            check.due("setLeast(" + m + ")", x.setLeast(m), due[m]);
            check.due("about(3)", x.about(3), m);
            check.due("about(4)", x.about(4), due[m]);
        }
    }

    static void promise19MOutOfRangeIsRefused(Check check) {
        for (int m : new int[] {0, 1, 7, -2, LEAST_INT, GREATEST_INT}) {
            check.argument("setLeast(" + m + ")", Crystals::dressed, x -> x.setLeast(m));
            check.argument("setLeast(" + m + ") without faces", FaceZones::new, x -> x.setLeast(m));
        }
    }

    static void promise19NoFaceOneFaceSixteenFaces(Check check) {
        for (int m = 2; m <= 6; m++) {
            check.due("setLeast without faces", new FaceZones().setLeast(m), 0);
            check.due("setLeast with one face", Crystals.one().setLeast(m), 0);
            check.due("setLeast with sixteen faces in a zone", Crystals.belt().setLeast(m), 1);
            check.due("setLeast with 120 zones", Crystals.spread().setLeast(m), m == 2 ? 120 : 0);
        }
    }

    static void promise19IsAnActionAlsoIfNothingChanges(Check check) {
        isAction(check, "setLeast(2)", FaceZones::new, x -> x.setLeast(2));
        isAction(check, "setLeast(3)", Crystals::dressed, x -> x.setLeast(3));
        isAction(check, "setLeast(6)", Crystals::crowded, x -> x.setLeast(6));
    }

    // ---- promise 20

    static void promise20IndicesAreFromMinus3To3(Check check) {
        int[][] planes = {{-3, 2, 1}, {3, 1, 2}, {2, -3, 1}, {1, 3, 2}, {1, 2, -3}, {2, 1, 3}, {-2, -1, -3}};
        for (int[] n : planes) {
            FaceZones x = Crystals.dressed();
            x.setTwin(n[0], n[1], n[2]);
            planeIs(check, x, n);
        }
    }

    private static void refusedPlane(Check check, int p, int q, int r) {
        String call = "setTwin(" + p + ", " + q + ", " + r + ")";
        check.argument(call, Crystals::dressed, x -> x.setTwin(p, q, r));
        check.argument(call + " without faces", FaceZones::new, x -> x.setTwin(p, q, r));
    }

    static void promise20IndicesOutOfRangeAreRefused(Check check) {
        for (int n : new int[] {-4, 4, LEAST_INT, GREATEST_INT}) {
            refusedPlane(check, n, 1, 0);
            refusedPlane(check, 1, n, 0);
            refusedPlane(check, 0, 1, n);
            refusedPlane(check, n, 0, 0);
            refusedPlane(check, 0, n, 0);
            refusedPlane(check, 0, 0, n);
        }
        refusedPlane(check, 4, 4, 4);
        refusedPlane(check, -4, 2, 2);
    }

    static void promise20AllIndices0IsRefused(Check check) {
        refusedPlane(check, 0, 0, 0);
    }

    static void promise20TwoIndicesMayBe0(Check check) {
        int[][] planes = {{1, 0, 0}, {0, 1, 0}, {0, 0, 1}, {-1, 0, 0}, {0, -1, 0}, {0, 0, -1}};
        for (int[] n : planes) {
            FaceZones x = new FaceZones();
            x.setTwin(n[0], n[1], n[2]);
            planeIs(check, x, n);
        }
    }

    static void promise20IndicesAreDividedAndKeepTheirSigns(Check check) {
        int[][] rows = {{2, -2, 0, 1, -1, 0}, {-3, -3, -3, -1, -1, -1}, {0, -3, 0, 0, -1, 0}, {-2, 0, 2, -1, 0, 1},
            {0, 0, 2, 0, 0, 1}, {3, 0, -3, 1, 0, -1}, {-3, 3, 2, -3, 3, 2}, {2, 2, 1, 2, 2, 1}, {-2, -2, 3, -2, -2, 3}};
        for (int[] n : rows) {
            FaceZones x = Crystals.dressed();
            x.setTwin(n[0], n[1], n[2]);
            planeIs(check, x, n[3], n[4], n[5]);
        }
    }

    static void promise20ReturnsTheListedZonesThen(Check check) {
        check.due("setTwin without faces", new FaceZones().setTwin(1, 0, 0), 0);
        check.due("setTwin with one face", Crystals.one().setTwin(1, 0, 0), 0);
        check.due("setTwin with 120 zones of half 0", Crystals.spread().setTwin(-3, 2, 1), 120);
        FaceZones x = Check.crystal(1, 0, 0, 0, 1, 0);
        x.addFace(1, 0, 1, 1);
        check.due("setTwin(0, 1, -1)", x.setTwin(0, 1, -1), 1);
        check.due("setTwin(1, -1, 0)", x.setTwin(1, -1, 0), 3);
        x.setLeast(3);
        check.due("setTwin(0, 1, -1) with m 3", x.setTwin(0, 1, -1), 1);
        check.due("setTwin(1, -1, 0) with m 3", x.setTwin(1, -1, 0), 0);
    }

    static void promise20IsAnActionAlsoIfNothingChanges(Check check) {
        isAction(check, "setTwin(1, 1, 1)", FaceZones::new, x -> x.setTwin(1, 1, 1));
        isAction(check, "setTwin(2, -1, 0)", Crystals::dressed, x -> x.setTwin(2, -1, 0));
        isAction(check, "setTwin(0, 0, 1)", Crystals::crowded, x -> x.setTwin(0, 0, 1));
    }

    // ---- promise 21

    /** As many actions, each of which adds a face or sets a twin plane, so that no two states are alike. */
    private static FaceZones after(int actions) {
        FaceZones x = new FaceZones();
        for (int n = 1; n <= actions; n++) {
            if (n <= 16) {
                x.addFace(1, n % 8, n / 8, 0);
            } else {
                x.setTwin(n % 7 - 3, n / 7 - 3, 1);
            }
        }
        return x;
    }

    private static void undoesDownTo(Check check, int actions, int oldest) {
        FaceZones x = after(actions);
        for (int n = actions - 1; n >= oldest; n--) {
            check.due("undo() of action " + (n + 1) + " of " + actions, x.undo(), n - oldest);
            FaceZones due = after(n);
            for (int what : new int[] {0, 7, 8}) {
                check.due("about(" + what + ") after action " + n, x.about(what), due.about(what));
            }
        }
        check.state("undo() of action " + oldest + " of " + actions, x::undo);
        check.isTrue("the oldest state", Check.view(x).equals(Check.view(after(oldest))));
    }

    static void promise21NoStateIsRemembered(Check check) {
        check.state("undo()", FaceZones::new, FaceZones::undo);
    }

    static void promise21OneState(Check check) {
        undoesDownTo(check, 1, 0);
    }

    static void promise21ThirteenStates(Check check) {
        undoesDownTo(check, 13, 0);
    }

    static void promise21FourteenStates(Check check) {
        undoesDownTo(check, 14, 0);
    }

    static void promise21TheFifteenthStateForgetsTheOldest(Check check) {
        undoesDownTo(check, 15, 1);
    }

    static void promise21EachFurtherStateForgetsTheOldest(Check check) {
        for (int actions = 16; actions <= 31; actions++) {
            undoesDownTo(check, actions, actions - 14);
        }
    }

    static void promise21FourteenAgainAfterFourteen(Check check) {
        FaceZones x = after(14);
        for (int left = 13; left >= 0; left--) {
            check.due("undo()", x.undo(), left);
        }
        for (int n = 1; n <= 15; n++) {
            x.addFace(n - 8, 9, 1, 1);
        }
        for (int left = 13; left >= 0; left--) {
            check.due("undo() again", x.undo(), left);
        }
        faceIs(check, x, 0, -7, 9, 1, 1);
        check.due("about(0)", x.about(0), 1);
        check.state("undo() once more", x::undo);
    }

    static void promise21ActionsAfterSomeUndos(Check check) {
        FaceZones x = after(16);
        for (int n = 0; n < 5; n++) {
            x.undo();
        }
        check.due("about(0)", x.about(0), 11);
        x.setSystem(4);
        x.setLeast(5);
        check.due("undo() of setLeast", x.undo(), 10);
        check.due("about(3)", x.about(3), 2);
        check.due("undo() of setSystem", x.undo(), 9);
        check.due("about(2)", x.about(2), 0);
        for (int left = 8; left >= 0; left--) {
            check.due("undo() of an older action", x.undo(), left);
        }
        check.due("about(0) then", x.about(0), 2);
        check.state("undo() of the oldest", x::undo);
    }

    static void promise21UndoIsNoAction(Check check) {
        FaceZones x = after(3);
        check.due("undo()", x.undo(), 2);
        check.due("undo() again", x.undo(), 1);
        check.due("about(0)", x.about(0), 1);
    }

    static void promise21RefusedCallsAreNoActions(Check check) {
        FaceZones x = after(14);
        check.argument("addFace(0, 0, 0, 0)", () -> x.addFace(0, 0, 0, 0));
        check.state("addFace of a face that is there", () -> x.addFace(1, 1, 0, 0));
        check.index("addForm(14)", () -> x.addForm(14));
        check.index("twin(14)", () -> x.twin(14));
        check.index("remove(14)", () -> x.remove(14));
        check.argument("setSystem(5)", () -> x.setSystem(5));
        check.argument("setLeast(1)", () -> x.setLeast(1));
        check.argument("setTwin(0, 0, 0)", () -> x.setTwin(0, 0, 0));
        for (int left = 13; left >= 0; left--) {
            check.due("undo()", x.undo(), left);
        }
        check.due("about(0)", x.about(0), 0);
    }

    static void promise21RefusedUndoChangesNothing(Check check) {
        check.state("undo() after restore", () -> {
            FaceZones x = Crystals.dressed();
            x.restore(1);
            return x;
        }, FaceZones::undo);
        check.state("undo() after all undos", () -> {
            FaceZones x = Crystals.crowded();
            for (int n = 0; n < 14; n++) {
                x.undo();
            }
            return x;
        }, FaceZones::undo);
    }

    static void promise21OneActionOfEachKind(Check check) {
        FaceZones x = Check.crystal(1, 0, 0);
        x.addForm(0);
        x.twin(1);
        x.remove(0);
        x.setSystem(3);
        x.setLeast(4);
        x.setTwin(0, 1, -1);
        planeIs(check, x, 0, 1, -1);
        check.due("undo() of setTwin", x.undo(), 6);
        planeIs(check, x, 1, 1, 1);
        check.due("about(3)", x.about(3), 4);
        check.due("undo() of setLeast", x.undo(), 5);
        check.due("about(3) then", x.about(3), 2);
        check.due("about(2)", x.about(2), 3);
        check.due("undo() of setSystem", x.undo(), 4);
        check.due("about(2) then", x.about(2), 0);
        faceIs(check, x, 0, -1, 0, 0, 0);
        faceIs(check, x, 1, -1, 0, 0, 1);
        check.due("undo() of remove", x.undo(), 3);
        faceIs(check, x, 0, 1, 0, 0, 0);
        faceIs(check, x, 1, -1, 0, 0, 0);
        faceIs(check, x, 2, -1, 0, 0, 1);
        check.due("undo() of twin", x.undo(), 2);
        check.due("about(1)", x.about(1), 0);
        check.due("undo() of addForm", x.undo(), 1);
        check.due("about(0)", x.about(0), 1);
        check.due("undo() of addFace", x.undo(), 0);
        check.due("about(0) then", x.about(0), 0);
    }

    static void promise21KeepsTheTextAndTheSlots(Check check) {
        FaceZones x = after(3);
        Check.tell(x, "X0f0123");
        x.save(0);
        x.remove(0);
        x.save(1);
        check.due("undo()", x.undo(), 3);
        check.due("undo() again", x.undo(), 2);
        check.due("errorPosition()", x.errorPosition(), FaceZones.NONE);
        check.due("clearText()", x.clearText(), 7);
        check.due("restore(1)", x.restore(1), 2);
        check.due("restore(0)", x.restore(0), 3);
    }

    static void promise21LoadAndRestoreAreNoActions(Check check) {
        FaceZones x = Crystals.crowded();
        x.load();
        check.state("undo() after load", x::undo);
        FaceZones y = Crystals.crowded();
        y.restore(0);
        check.state("undo() after restore", y::undo);
    }

    static void promise21ZonesFollow(Check check) {
        FaceZones x = Crystals.cube();
        check.due("about(4)", x.about(4), 4);
        x.undo();
        check.due("about(4) then", x.about(4), 3);
        check.index("zone(3, 0)", () -> x.zone(3, 0));
    }

    public static void main(String[] args) throws IllegalAccessException {
        Edges.run(EdgeActionTest.class, 14, 21);
    }
}
