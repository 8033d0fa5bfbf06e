import java.util.function.Supplier;

/** The boundary cases of promises 22 to 25: what would be. */
public final class EdgeWouldBeTest {
    private static final int NONE = FaceZones.NONE;
    private static final int LEAST_INT = Integer.MIN_VALUE;
    private static final int GREATEST_INT = Integer.MAX_VALUE;
    private static final int[] WRONG_INDICES = {-10, 10, LEAST_INT, GREATEST_INT};
    private static final int[] WRONG_HALVES = {-1, 2, LEAST_INT, GREATEST_INT};

    private static FaceZones fifteen() {
        FaceZones x = Crystals.full();
        x.remove(15);
        return x;
    }

    private static void why(Check check, FaceZones x, int h, int k, int l, int half, int due) {
        check.due("whyNot(" + h + ", " + k + ", " + l + ", " + half + ")", x.whyNot(h, k, l, half), due);
    }

    // ---- promise 22

    static void promise22IndicesAreFromMinus9To9(Check check) {
        for (int n : new int[] {-9, -8, 8, 9}) {
            why(check, new FaceZones(), n, 1, 1, 0, 0);
            why(check, new FaceZones(), 1, n, 1, 1, 0);
            why(check, new FaceZones(), 1, 1, n, 0, 0);
            why(check, Crystals.full(), n, n, n, 1, 3);
        }
    }

    private static void refused(Check check, int h, int k, int l, int half) {
        String call = "whyNot(" + h + ", " + k + ", " + l + ", " + half + ")";
        check.argument(call, Crystals::dressed, x -> x.whyNot(h, k, l, half));
        check.argument(call + " without faces", FaceZones::new, x -> x.whyNot(h, k, l, half));
        check.argument(call + " with 16 faces", Crystals::crowded, x -> x.whyNot(h, k, l, half));
    }

    static void promise22IndicesOutOfRangeAreRefused(Check check) {
        for (int n : WRONG_INDICES) {
            refused(check, n, 1, 2, 0);
            refused(check, 1, n, 2, 1);
            refused(check, 1, 2, n, 0);
            refused(check, n, 0, 0, 0);
            refused(check, 0, n, 0, 0);
            refused(check, 0, 0, n, 0);
        }
    }

    static void promise22HalfOutOfRangeIsRefused(Check check) {
        for (int half : WRONG_HALVES) {
            refused(check, 1, 2, 3, half);
            refused(check, 0, 0, 0, half);
            refused(check, 1, 0, 0, half);
        }
    }

    static void promise22Is0IfTheFaceCanBeAdded(Check check) {
        why(check, new FaceZones(), 1, 0, 0, 0, 0);
        why(check, Crystals.dressed(), -1, 0, 0, 0, 0);
        why(check, Crystals.dressed(), 1, 0, 0, 1, 0);
        why(check, Crystals.dressed(), 1, 2, 0, 0, 0);
        why(check, fifteen(), 1, 0, 0, 0, 0);
    }

    static void promise22Is1IfAllIndicesAre0(Check check) {
        for (int half = 0; half <= 1; half++) {
            why(check, new FaceZones(), 0, 0, 0, half, 1);
            why(check, Crystals.dressed(), 0, 0, 0, half, 1);
        }
    }

    static void promise22Is2IfThereIsSuchAFace(Check check) {
        why(check, Crystals.dressed(), 1, 0, 0, 0, 2);
        why(check, Crystals.dressed(), 7, 0, 0, 0, 2);
        why(check, Crystals.dressed(), 1, 2, 0, 1, 2);
        why(check, Crystals.dressed(), 4, 8, 0, 1, 2);
        why(check, Crystals.one(), 3, 6, 9, 0, 2);
    }

    static void promise22Is3IfThereAre16Faces(Check check) {
        why(check, Crystals.full(), 1, 0, 0, 0, 3);
        why(check, Crystals.full(), 1, 2, 3, 1, 3);
    }

    static void promise22TheFirstThatAppliesIsTold(Check check) {
        why(check, Crystals.full(), 0, 0, 0, 0, 1);
        why(check, Crystals.full(), 0, 0, 0, 1, 1);
        why(check, Crystals.full(), 2, 1, 3, 0, 2);
        why(check, Crystals.full(), -2, -4, -6, 0, 2);
    }

    static void promise22TellsWhatAddFaceDoes(Check check) {
        for (int[] n : new int[][] {{0, 0, 0, 1}, {1, 0, 0, 0}, {2, 0, 0, 0}, {1, 0, 0, 1}, {9, -9, 0, 0}}) {
            boolean adds = true;
            try {
                Crystals.dressed().addFace(n[0], n[1], n[2], n[3]);
            } catch (IllegalArgumentException | IllegalStateException e) {
                adds = false;
            }
            int got = Crystals.dressed().whyNot(n[0], n[1], n[2], n[3]);
            check.isTrue("whyNot() is 0 just if addFace() adds, not " + got, (got == 0) == adds);
        }
    }

    static void promise22ChangesNothing(Check check) {
        check.keeps("whyNot(9, -9, 9, 1)", Crystals::dressed, x -> x.whyNot(9, -9, 9, 1));
        check.keeps("whyNot(1, 0, 0, 0)", Crystals::crowded, x -> x.whyNot(1, 0, 0, 0));
        check.keeps("whyNot(0, 0, 0, 0)", FaceZones::new, x -> x.whyNot(0, 0, 0, 0));
    }

    // ---- promise 23

    private static FaceZones withHalves(int... n) {
        FaceZones x = new FaceZones();
        for (int at = 0; at + 3 < n.length; at += 4) {
            x.addFace(n[at], n[at + 1], n[at + 2], n[at + 3]);
        }
        return x;
    }

    static void promise23NoFaceOneFaceSixteenFaces(Check check) {
        check.due("bestTwin() without faces", new FaceZones().bestTwin(), 112);
        check.due("bestTwin() of one face", Crystals.one().bestTwin(), 112);
        check.due("bestTwin() of one face of half 1", withHalves(1, 2, 3, 1).bestTwin(), 112);
        check.due("bestTwin() of sixteen faces in a zone", Crystals.belt().bestTwin(), 112);
        check.due("bestTwin() of 120 zones", Crystals.spread().bestTwin(), 112);
    }

    static void promise23NoListedZoneCounts0(Check check) {
        FaceZones x = withHalves(0, -1, 0, 0, 0, 0, 1, 0, -2, -2, 1, 1);
        x.setLeast(4);
        check.due("bestTwin() if no zone is listed with any plane", x.bestTwin(), 112);
        FaceZones y = withHalves(0, -2, 1, 0, 0, -1, 0, 0, -2, -2, 1, 1);
        y.setLeast(3);
        check.due("bestTwin() if one zone is listed with one plane alone", y.bestTwin(), 222);
        y.setLeast(4);
        check.due("bestTwin() with m 4", y.bestTwin(), 112);
    }

    /** For each normalized plane a crystal in which three faces lie in one zone with this plane alone. */
    static void promise23EachNormalizedPlane(Check check) {
        int[][] rows = {
            {112, -1, -2, -1, 0, 1, 2, 0, 0, 1, 2, 0, 1}, {120, -2, -1, 2, 0, -1, -2, 2, 0, -2, 2, -1, 1},
            {121, -1, -2, -2, 0, 2, 1, 0, 0, 1, 1, -2, 1}, {122, 0, -1, 2, 0, 1, -2, 1, 0, -1, 1, -2, 1},
            {200, 2, -2, 1, 0, 1, -2, 2, 0, 0, 0, 1, 1}, {201, 0, -1, 0, 0, 2, -1, 2, 0, 2, 1, 1, 1},
            {202, 2, 0, 1, 0, 0, -1, -1, 0, 0, 0, 1, 1}, {210, -2, 0, 1, 0, 0, -2, 1, 0, -1, 2, 0, 1},
            {211, -2, 1, 2, 0, 1, 1, 1, 0, 2, 1, 2, 1}, {212, -2, -1, 2, 0, -2, 1, -1, 0, 1, 1, 2, 1},
            {220, 0, -1, -1, 0, 0, 0, -1, 0, 2, -1, -2, 1}, {221, 0, 1, -1, 0, -2, -1, -2, 0, 1, 0, 1, 1},
            {222, 0, -2, 1, 0, 0, -1, 0, 0, -2, -2, 1, 1}};
        for (int[] row : rows) {
            int[] faces = java.util.Arrays.copyOfRange(row, 1, row.length);
            check.due("bestTwin()", withHalves(faces).bestTwin(), row[0]);
            FaceZones x = withHalves(faces);
            x.setTwin(row[0] / 100 - 1, row[0] / 10 % 10 - 1, row[0] % 10 - 1);
            check.due("faces in the first zone with this plane", x.about(6), 3);
            check.due("bestTwin() with this plane", x.bestTwin(), row[0]);
            x.setLeast(3);
            check.due("bestTwin() with this plane and m 3", x.bestTwin(), row[0]);
        }
    }

    /** A plane with a 2 would bring four faces into one zone here, but none with indices from -1 to 1 does. */
    static void promise23PlanesBeyond1AreNotAsked(Check check) {
        int[][] planes = {{2, 1, 0}, {2, -1, 0}, {-1, 2, 0}, {1, 2, 0}};
        for (int turn = 0; turn < 3; turn++) {
            for (int n = 0; n < 4; n++) {
                int side = n % 2 == 0 ? -3 : 3;
                FaceZones x = new FaceZones();
                addTurned(x, turn, 0, 1, 0, 0);
                addTurned(x, turn, 0, 0, 1, 0);
                addTurned(x, turn, 4, side, 0, 1);
                addTurned(x, turn, -4, -side, 5, 1);
                check.due("bestTwin()", x.bestTwin(), 112);
                int[] plane = turned(turn, planes[n]);
                x.setTwin(plane[0], plane[1], plane[2]);
                check.due("faces in the first zone with a plane with a 2", x.about(6), 4);
                check.due("bestTwin() then", x.bestTwin(), 112);
                planeIs(check, x, plane);
            }
        }
    }

    private static int[] turned(int turn, int... n) {
        return new int[] {n[(3 - turn) % 3], n[(4 - turn) % 3], n[(5 - turn) % 3]};
    }

    private static void addTurned(FaceZones x, int turn, int h, int k, int l, int half) {
        int[] n = turned(turn, h, k, l);
        x.addFace(n[0], n[1], n[2], half);
    }

    private static void planeIs(Check check, FaceZones x, int... due) {
        for (int n = 0; n < 3; n++) {
            check.due("about(" + (7 + n) + ")", x.about(7 + n), due[n]);
        }
    }

    static void promise23TheSmallestNumberAmongSeveral(Check check) {
        // With the planes 1, -1, 0 and 1, 1, 0, the twin of 1, 0, 0 is parallel to 0, 1, 0: both bring it there.
        FaceZones x = withHalves(0, 1, 0, 0, 0, 0, 1, 0, 1, 0, 0, 1);
        x.setLeast(3);
        check.due("bestTwin()", x.bestTwin(), 201);
        x.setTwin(1, 1, 0);
        check.due("about(6) with 1, 1, 0", x.about(6), 3);
        check.due("bestTwin() with 1, 1, 0", x.bestTwin(), 201);
        x.setTwin(1, 0, -1);
        check.due("about(6) with 1, 0, -1", x.about(6), 3);
    }

    static void promise23AnEarlierPlaneWithLessIsNotBest(Check check) {
        // Three planes bring three faces into a zone; 1, 1, 1 alone brings four.
        FaceZones x = withHalves(0, 1, 0, 0, 0, 0, 1, 0, 2, 1, 0, 1, 2, 0, 1, 1);
        check.due("bestTwin()", x.bestTwin(), 222);
    }

    static void promise23ChangesNothing(Check check) {
        check.keeps("bestTwin()", Crystals::dressed, FaceZones::bestTwin);
        check.keeps("bestTwin()", Crystals::crowded, FaceZones::bestTwin);
        check.keeps("bestTwin()", FaceZones::new, FaceZones::bestTwin);
        FaceZones x = Crystals.dressed();
        int before = x.face(2, 5);
        x.bestTwin();
        check.due("face(2, 5) after bestTwin()", x.face(2, 5), before);
    }

    // ---- promise 24

    static void promise24NoFaceIsNone(Check check) {
        check.due("keyFace()", new FaceZones().keyFace(), NONE);
        FaceZones x = Crystals.one();
        x.remove(0);
        check.due("keyFace() after the only face was removed", x.keyFace(), NONE);
    }

    static void promise24OneFace(Check check) {
        check.due("keyFace()", Crystals.one().keyFace(), 0);
    }

    static void promise24TheFirstAmongSeveral(Check check) {
        check.due("keyFace() of two faces", Check.crystal(1, 0, 0, 0, 1, 0).keyFace(), 0);
        check.due("keyFace() of parallel faces", Check.crystal(1, 0, 0, -1, 0, 0).keyFace(), 0);
        check.due("keyFace() of sixteen faces in a zone", Crystals.belt().keyFace(), 0);
        check.due("keyFace() of 120 zones", Crystals.spread().keyFace(), 0);
        // Without 0, 0, 1 one zone is left, without any other face three.
        check.due("keyFace() of the cube", Crystals.cube().keyFace(), 2);
    }

    /** All faces but one are in the zone 0, 0, 1, and with each of them the one tells a zone of its own. */
    static void promise24EachOfSixteenFaces(Check check) {
        for (int key = 0; key < 16; key++) {
            FaceZones x = new FaceZones();
            for (int k = -7; k <= 8; k++) {
                if (k + 7 == key) {
                    x.addFace(0, 0, -1, 0);
                } else {
                    x.addFace(1, k, 0, 0);
                }
            }
            check.due("about(4)", x.about(4), 16);
            check.due("keyFace()", x.keyFace(), key);
        }
    }

    /** The face on which most zones hang is told by the zones that are left, not by those in which it lies. */
    static void promise24FewestZonesAreLeftWithoutIt(Check check) {
        // The parallel faces 0 and 1 lie in three zones each, but without one of them the other still tells these.
        FaceZones x = Check.crystal(2, 1, 0, -2, -1, 0, -1, -2, -2, 1, 2, -2, -1, -2, 0);
        check.due("face(0, 7)", x.face(0, 7), 3);
        check.due("face(2, 7)", x.face(2, 7), 2);
        check.due("keyFace()", x.keyFace(), 2);
        FaceZones y = Check.crystal(1, -1, -2, 1, -1, -1, 0, -1, -1, -1, 1, 2, -2, -1, 2, -2, 2, 1, -1, 0, 1);
        y.setLeast(3);
        check.due("face(0, 7) with m 3", y.face(0, 7), 3);
        check.due("face(4, 7) with m 3", y.face(4, 7), 2);
        check.due("keyFace() with m 3", y.keyFace(), 4);
    }

    static void promise24NoListedZone(Check check) {
        FaceZones x = Crystals.spread();
        x.setLeast(3);
        check.due("keyFace() if none is listed", x.keyFace(), 0);
    }

    static void promise24ListedZonesGoByM(Check check) {
        FaceZones x = Check.crystal(0, 0, 1, 1, 0, 0, 0, 1, 0, 1, 1, 0);
        check.due("keyFace() with m 2", x.keyFace(), 0);
        x.setLeast(3);
        check.due("keyFace() with m 3", x.keyFace(), 1);
        x.setLeast(4);
        check.due("keyFace() with m 4", x.keyFace(), 0);
    }

    static void promise24ChangesNothing(Check check) {
        check.keeps("keyFace()", Crystals::dressed, FaceZones::keyFace);
        check.keeps("keyFace()", Crystals::crowded, FaceZones::keyFace);
        check.keeps("keyFace()", FaceZones::new, FaceZones::keyFace);
    }

    // ---- promise 25

    private static void grows(Check check, Supplier<FaceZones> make, int... due) {
        for (int rounds = 0; rounds <= 3; rounds++) {
            check.due("grown(" + rounds + ")", make.get().grown(rounds), due[rounds]);
        }
    }

    static void promise25RoundsAreFrom0To3(Check check) {
        grows(check, () -> Check.crystal(1, 0, 0, 0, 1, 0, 0, 0, 1, 1, 1, 1), 4, 7, 13, 40);
        grows(check, () -> Check.crystal(1, 1, 1, -1, 1, 1, 1, -1, 1, 1, 1, -1), 4, 7, 13, 37);
    }

    static void promise25RoundsOutOfRangeAreRefused(Check check) {
        for (int rounds : new int[] {-1, 4, LEAST_INT, GREATEST_INT}) {
            check.argument("grown(" + rounds + ")", Crystals::dressed, x -> x.grown(rounds));
            check.argument("grown(" + rounds + ") without faces", FaceZones::new, x -> x.grown(rounds));
        }
    }

    static void promise25NoFace(Check check) {
        grows(check, FaceZones::new, 0, 0, 0, 0);
    }

    static void promise25OneDirection(Check check) {
        grows(check, () -> Check.crystal(1, 2, 2), 1, 1, 1, 1);
        grows(check, () -> Check.crystal(1, 2, 2, -1, -2, -2), 1, 1, 1, 1);
        grows(check, () -> Check.loaded("X0f0111f0-1-1-1f1111f1-1-1-1"), 1, 1, 1, 1);
    }

    static void promise25SixteenFaces(Check check) {
        // Eight of them have numbers from -2 to 2, and all lie in one zone.
        grows(check, Crystals::belt, 8, 8, 8, 8);
        grows(check, Crystals::full, 0, 0, 0, 0);
    }

    static void promise25TwoDirectionsTellOneZoneAndNoFurtherOne(Check check) {
        grows(check, () -> Check.crystal(1, 0, 0, 0, 1, 0), 2, 2, 2, 2);
        grows(check, () -> Check.crystal(1, 0, 0, 0, 1, 0, 1, 1, 0), 3, 3, 3, 3);
    }

    static void promise25BeginsWithNumbersFromMinus2To2(Check check) {
        for (int n : new int[] {-2, -1, 0, 1, 2}) {
            check.due("grown(0)", Check.crystal(n, 1, 1).grown(0), 1);
            check.due("grown(0)", Check.crystal(1, n, 1).grown(0), 1);
            check.due("grown(0)", Check.crystal(1, 1, n).grown(0), 1);
        }
        for (int n : new int[] {-9, -4, -3, 3, 4, 9}) {
            check.due("grown(0)", Check.crystal(n, 1, 1).grown(0), 0);
            check.due("grown(0)", Check.crystal(1, n, 1).grown(0), 0);
            check.due("grown(0)", Check.crystal(1, 1, n).grown(0), 0);
        }
        check.due("grown(0) of 2, 2, -1", Check.crystal(2, 2, -1).grown(0), 1);
        check.due("grown(0) of -2, 1, -2", Check.crystal(-2, 1, -2).grown(0), 1);
    }

    static void promise25GreaterDirectionsGrowNothing(Check check) {
        grows(check, () -> Check.crystal(1, 0, 0, 0, 1, 0, 0, 0, 1, 3, 1, 1), 3, 3, 3, 3);
        grows(check, () -> Check.crystal(3, 1, 0, 0, 3, 1, 1, 0, 3, 4, 1, 1), 0, 0, 0, 0);
    }

    static void promise25BeginsWithDirectionsNotIndices(Check check) {
        FaceZones x = Check.crystal(1, 0, 0, 0, 1, 0);
        x.addFace(1, 0, 0, 1);
        check.due("grown(0) with 1, -2, -2", x.grown(0), 3);
        x.setTwin(2, 1, 0);
        check.due("grown(0) with -3, -4, 0", x.grown(0), 2);
        x.setTwin(1, 0, 0);
        check.due("grown(0) with -1, 0, 0", x.grown(0), 2);
    }

    static void promise25ZonesMayHaveGreaterNumbers(Check check) {
        grows(check, () -> Check.crystal(2, 1, 2, 1, -2, 1, 2, 2, -1, 1, 0, -2), 4, 5, 5, 5);
        grows(check, () -> Check.crystal(-1, -1, -2, 1, 2, -1, -1, 1, 1, 1, -2, 2), 4, 6, 6, 6);
    }

    static void promise25GreaterProductsAreNotAdded(Check check) {
        grows(check, () -> Check.crystal(2, 1, 0, 0, 2, 1, 1, 0, 2, 1, 1, 1), 4, 4, 4, 4);
        grows(check, () -> Check.crystal(2, -1, -1, -1, 2, 1, -1, 1, -1, 1, 2, -2, -1, 0, -1, -2, -1, 0), 6, 8, 12, 31);
    }

    static void promise25AllFortyNineDirections(Check check) {
        grows(check, () -> Check.crystal(0, -1, 2, 1, 0, 0, 0, 2, 1, 1, -1, 0, -1, 1, 1, -2, -1, 0), 6, 15, 47, 49);
    }

    static void promise25MDoesNotMatter(Check check) {
        grows(check, () -> {
            FaceZones x = Check.crystal(1, 0, 0, 0, 1, 0, 0, 0, 1, 1, 1, 1);
            x.setLeast(6);
            return x;
        }, 4, 7, 13, 40);
    }

    static void promise25EachCallBeginsAnew(Check check) {
        FaceZones x = Check.crystal(1, 0, 0, 0, 1, 0, 0, 0, 1, 1, 1, 1);
        check.due("grown(3)", x.grown(3), 40);
        check.due("grown(0)", x.grown(0), 4);
        check.due("grown(1)", x.grown(1), 7);
        x.remove(3);
        check.due("grown(3) of three", x.grown(3), 3);
        FaceZones y = Check.crystal(1, 1, 1, -1, 1, 1, 1, -1, 1, 1, 1, -1);
        check.due("grown(1), 0, 0, 1 and two more", y.grown(1), 7);
        y.remove(3);
        check.due("grown(1) of three", y.grown(1), 3);
    }

    static void promise25ChangesNothing(Check check) {
        check.keeps("grown(3)", Crystals::dressed, x -> x.grown(3));
        check.keeps("grown(3)", Crystals::crowded, x -> x.grown(3));
        check.keeps("grown(0)", FaceZones::new, x -> x.grown(0));
    }

    public static void main(String[] args) throws IllegalAccessException {
        Edges.run(EdgeWouldBeTest.class, 22, 25);
    }
}
