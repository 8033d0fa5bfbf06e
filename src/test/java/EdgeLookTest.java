import java.util.function.Supplier;

/** The boundary cases of promises 6 to 13: what there is. */
public final class EdgeLookTest {
    private static final int NONE = FaceZones.NONE;
    private static final int LEAST_INT = Integer.MIN_VALUE;
    private static final int GREATEST_INT = Integer.MAX_VALUE;
    private static final Supplier<FaceZones> CROWDED = Crystals::crowded;

    /** A crystal without a listed zone: 16 faces, each two in a zone of their own, and m is 3. */
    private static FaceZones unlisted() {
        FaceZones x = Crystals.spread();
        x.setLeast(3);
        return x;
    }

    /** One zone, with two faces. */
    private static FaceZones two() {
        return Check.crystal(1, 0, 0, 0, 1, 0);
    }

    /** All four faces that are parallel to 1, 1, 1 with the twin plane 1, 1, 1. */
    private static FaceZones parallel() {
        FaceZones x = Check.crystal(1, 1, 1, -1, -1, -1);
        x.addFace(1, 1, 1, 1);
        x.addFace(-1, -1, -1, 1);
        return x;
    }

    private static void abouts(Check check, String of, FaceZones x, int... due) {
        for (int what = 0; what < due.length; what++) {
            check.due("about(" + what + ") of " + of, x.about(what), due[what]);
        }
    }

    private static void zoneIs(Check check, FaceZones x, int z, int u, int v, int w, int mask) {
        int[] due = {u, v, w, Integer.bitCount(mask), mask};
        for (int what = 0; what < 5; what++) {
            check.due("zone(" + z + ", " + what + ")", x.zone(z, what), due[what]);
        }
    }

    private static void directionIs(Check check, FaceZones x, int i, int a, int b, int c) {
        int[] due = {a, b, c};
        for (int n = 0; n < 3; n++) {
            check.due("face(" + i + ", " + (4 + n) + ")", x.face(i, 4 + n), due[n]);
        }
    }

    // ---- promise 6

    static void promise06WhatIsFrom0To9(Check check) {
        abouts(check, "the dressed crystal", Crystals.dressed(), 3, 1, 3, 3, 1, 3, 3, 2, -1, 0);
    }

    static void promise06WhatBelow0IsRefused(Check check) {
        check.argument("about(-1)", Crystals::dressed, x -> x.about(-1));
        check.argument("about(least int)", Crystals::dressed, x -> x.about(LEAST_INT));
    }

    static void promise06WhatAbove9IsRefused(Check check) {
        check.argument("about(10)", Crystals::dressed, x -> x.about(10));
        check.argument("about(greatest int)", Crystals::dressed, x -> x.about(GREATEST_INT));
    }

    static void promise06NoFace(Check check) {
        abouts(check, "no face", new FaceZones(), 0, 0, 0, 2, 0, 0, 0, 1, 1, 1);
    }

    static void promise06OneFace(Check check) {
        abouts(check, "one face", Crystals.one(), 1, 0, 0, 2, 0, 1, 0, 1, 1, 1);
        FaceZones x = new FaceZones();
        x.addFace(1, 2, 3, 1);
        abouts(check, "one face of half 1", x, 1, 1, 0, 2, 0, 1, 0, 1, 1, 1);
    }

    static void promise06TwoFaces(Check check) {
        abouts(check, "two faces", two(), 2, 0, 0, 2, 1, 2, 2, 1, 1, 1);
    }

    static void promise06SixteenFaces(Check check) {
        abouts(check, "sixteen faces in a zone", Crystals.belt(), 16, 0, 0, 2, 1, 16, 16, 1, 1, 1);
        abouts(check, "sixteen faces without a third in a zone", Crystals.spread(), 16, 0, 0, 2, 120, 16, 2, 1, 1, 1);
    }

    static void promise06SixteenFacesOfHalf1(Check check) {
        FaceZones x = new FaceZones();
        for (int n = 0; n < 16; n++) {
            x.addFace(1, n % 8, n / 8, 1);
            check.due("about(1) with " + (n + 1) + " faces of half 1", x.about(1), n + 1);
        }
        x.remove(15);
        x.twin(0);
        check.due("about(1) with 15 faces of half 1", x.about(1), 15);
    }

    static void promise06NoListedZone(Check check) {
        FaceZones x = unlisted();
        check.due("about(4)", x.about(4), 0);
        check.due("about(6)", x.about(6), 0);
        check.due("about(5)", x.about(5), 16);
    }

    static void promise06ParallelDirectionsCountOnce(Check check) {
        check.due("about(5) of parallel faces", parallel().about(5), 1);
        check.due("about(5) of eight opposite pairs", Crystals.full().about(5), 8);
        check.due("about(5) of the cube", Crystals.cube().about(5), 4);
        check.due("about(5) of a face told with both halves", Check.loaded("X0f01-10f11-10").about(5), 1);
    }

    static void promise06TheFirstListedZoneHasAtLeastM(Check check) {
        FaceZones x = Check.crystal(1, 0, 0, 0, 1, 0, 1, 1, 0);
        check.due("about(6) with m 2", x.about(6), 3);
        x.setLeast(3);
        check.due("about(6) with m 3", x.about(6), 3);
        x.setLeast(4);
        check.due("about(6) with m 4", x.about(6), 0);
    }

    static void promise06IndicesOfTheTwinPlaneFromMinus3To3(Check check) {
        int[][] planes = {{3, -3, 2}, {-3, 2, 3}, {2, 3, -3}, {0, 0, -1}, {0, 1, 0}, {-1, 0, 0}};
        for (int[] plane : planes) {
            FaceZones x = new FaceZones();
            x.setTwin(plane[0], plane[1], plane[2]);
            abouts(check, "a twin plane", x, 0, 0, 0, 2, 0, 0, 0, plane[0], plane[1], plane[2]);
        }
    }

    // ---- promise 7

    static void promise07NoFace(Check check) {
        check.index("face(0, 0) without faces", FaceZones::new, x -> x.face(0, 0));
        check.index("face(-1, 0) without faces", FaceZones::new, x -> x.face(-1, 0));
        check.index("face(0, 8) of removed faces", () -> {
            FaceZones x = Crystals.one();
            x.remove(0);
            return x;
        }, x -> x.face(0, 8));
    }

    static void promise07OneFace(Check check) {
        int[] due = {1, 2, 3, 0, 1, 2, 3, 0, 2};
        for (int what = 0; what <= 8; what++) {
            check.due("face(0, " + what + ")", Crystals.one().face(0, what), due[what]);
            int asked = what;
            check.index("face(1, " + what + ")", Crystals::one, x -> x.face(1, asked));
            check.index("face(-1, " + what + ")", Crystals::one, x -> x.face(-1, asked));
        }
    }

    static void promise07SixteenFaces(Check check) {
        FaceZones x = Crystals.belt();
        int[] due = {-1, 9, 0, 0, -1, 9, 0, 1, 2};
        for (int what = 0; what <= 8; what++) {
            check.due("face(15, " + what + ")", x.face(15, what), due[what]);
        }
        check.due("face(14, 1)", x.face(14, 1), 9);
        check.index("face(16, 0)", Crystals::belt, y -> y.face(16, 0));
        check.index("face(-1, 0)", Crystals::belt, y -> y.face(-1, 0));
    }

    static void promise07FarFacesAreRefused(Check check) {
        check.index("face(least int, 0)", Crystals::dressed, x -> x.face(LEAST_INT, 0));
        check.index("face(greatest int, 0)", Crystals::dressed, x -> x.face(GREATEST_INT, 0));
        check.index("face(3, 0) of three", Crystals::dressed, x -> x.face(3, 0));
    }

    static void promise07WhatBelow0IsRefused(Check check) {
        check.argument("face(0, -1)", Crystals::dressed, x -> x.face(0, -1));
        check.argument("face(2, least int)", Crystals::dressed, x -> x.face(2, LEAST_INT));
    }

    static void promise07WhatAbove8IsRefused(Check check) {
        check.argument("face(0, 9)", Crystals::dressed, x -> x.face(0, 9));
        check.argument("face(15, 9)", Crystals::crowded, x -> x.face(15, 9));
        check.argument("face(2, greatest int)", Crystals::dressed, x -> x.face(2, GREATEST_INT));
    }

    static void promise07TheFaceIsNamedFirst(Check check) {
        for (int what : new int[] {-1, 9, LEAST_INT, GREATEST_INT}) {
            check.index("face(3, " + what + ")", Crystals::dressed, x -> x.face(3, what));
            check.index("face(-1, " + what + ")", Crystals::dressed, x -> x.face(-1, what));
            check.index("face(0, " + what + ") without faces", FaceZones::new, x -> x.face(0, what));
        }
    }

    static void promise07DirectionOfHalf0IsTheIndices(Check check) {
        FaceZones x = Check.crystal(9, -8, 7, -9, -9, 8);
        directionIs(check, x, 0, 9, -8, 7);
        directionIs(check, x, 1, -9, -9, 8);
        x.setTwin(3, -2, 1);
        directionIs(check, x, 0, 9, -8, 7);
    }

    private static void mirrored(Check check, int[] plane, int[] face, int... due) {
        FaceZones x = new FaceZones();
        x.setTwin(plane[0], plane[1], plane[2]);
        x.addFace(face[0], face[1], face[2], 1);
        directionIs(check, x, 0, due[0], due[1], due[2]);
    }

    static void promise07DirectionOfHalf1IsMirrored(Check check) {
        mirrored(check, new int[] {1, 1, 1}, new int[] {1, 0, 0}, 1, -2, -2);
        mirrored(check, new int[] {1, 1, 1}, new int[] {1, 2, 3}, -3, -2, -1);
        mirrored(check, new int[] {0, 0, 1}, new int[] {1, 2, 3}, 1, 2, -3);
        mirrored(check, new int[] {0, 0, -1}, new int[] {1, 2, 3}, 1, 2, -3);
        mirrored(check, new int[] {1, -1, 0}, new int[] {1, 2, 3}, 2, 1, 3);
        mirrored(check, new int[] {2, 1, 0}, new int[] {1, 0, 0}, -3, -4, 0);
    }

    static void promise07DirectionIsDivided(Check check) {
        // t * (2, 1, 0) - 2 * s * (1, -1, 0) is 4, 2, 0 - 2, -2, 0.
        mirrored(check, new int[] {1, -1, 0}, new int[] {2, 1, 0}, 1, 2, 0);
        // t * (3, 3, 1) - 2 * s * (3, 3, 1) is -57, -57, -19.
        mirrored(check, new int[] {3, 3, 1}, new int[] {3, 3, 1}, -3, -3, -1);
    }

    static void promise07AFaceOnTheTwinPlaneIsTurnedRound(Check check) {
        mirrored(check, new int[] {1, 1, 1}, new int[] {1, 1, 1}, -1, -1, -1);
        mirrored(check, new int[] {3, -2, 1}, new int[] {-3, 2, -1}, 3, -2, 1);
    }

    static void promise07AFaceAcrossTheTwinPlaneStays(Check check) {
        mirrored(check, new int[] {1, 1, 1}, new int[] {1, -1, 0}, 1, -1, 0);
        mirrored(check, new int[] {3, -2, 1}, new int[] {2, 3, 0}, 2, 3, 0);
    }

    static void promise07TheGreatestDirection(Check check) {
        mirrored(check, new int[] {3, 3, 1}, new int[] {9, 8, -9}, -81, -100, -255);
        mirrored(check, new int[] {3, 3, -1}, new int[] {-9, -8, -9}, 81, 100, -255);
        mirrored(check, new int[] {-1, 3, 3}, new int[] {9, 9, 8}, 255, -81, -100);
    }

    static void promise07NumberOfListedZones(Check check) {
        FaceZones x = Crystals.cube();
        x.setLeast(3);
        int[] due = {1, 1, 0, 1};
        for (int i = 0; i < 4; i++) {
            check.due("face(" + i + ", 7) with m 3", x.face(i, 7), due[i]);
        }
        x.setLeast(4);
        check.due("face(0, 7) if no zone is listed", x.face(0, 7), 0);
        check.due("face(0, 7) of one face", Crystals.one().face(0, 7), 0);
        check.due("face(15, 7) in one zone", Crystals.belt().face(15, 7), 1);
        check.due("face(0, 7) in fifteen zones", Crystals.spread().face(0, 7), 15);
        check.due("face(15, 7) in fifteen zones", Crystals.spread().face(15, 7), 15);
        check.due("face(0, 7) of parallel faces", parallel().face(0, 7), 0);
    }

    static void promise07NumberOfIndicesOfTheFormEachOnce(Check check) {
        int[][] rows = {
            {0, 0, 1, 2, 2, 2, 2, 6}, {0, 1, 0, 2, 2, 2, 4, 6}, {1, 0, 0, 2, 2, 2, 4, 6},
            {0, 1, 2, 2, 4, 4, 8, 24}, {1, 0, 2, 2, 2, 4, 8, 24}, {1, 2, 0, 2, 4, 4, 8, 24},
            {1, 1, 0, 2, 4, 4, 4, 12}, {1, 0, 1, 2, 2, 4, 8, 12}, {0, 1, 1, 2, 4, 4, 8, 12},
            {1, 1, 1, 2, 4, 8, 8, 8}, {1, 1, 2, 2, 4, 8, 8, 24}, {1, 2, 1, 2, 4, 8, 16, 24},
            {2, 1, 1, 2, 4, 8, 16, 24}, {1, 2, 3, 2, 4, 8, 16, 48}, {1, -1, 0, 2, 4, 4, 4, 12},
            {-2, 2, -1, 2, 4, 8, 8, 24}, {0, 0, -1, 2, 2, 2, 2, 6}, {-9, 8, -7, 2, 4, 8, 16, 48},
            {-9, 9, 8, 2, 4, 8, 8, 24}, {0, -9, 8, 2, 4, 4, 8, 24}};
        for (int[] row : rows) {
            FaceZones x = Check.crystal(row[0], row[1], row[2]);
            x.twin(0);
            for (int system = 0; system <= 4; system++) {
                x.setSystem(system);
                String of = " of " + row[0] + ", " + row[1] + ", " + row[2] + " in the system " + system;
                check.due("face(0, 8)" + of, x.face(0, 8), row[3 + system]);
                check.due("face(1, 8)" + of, x.face(1, 8), row[3 + system]);
            }
        }
    }

    static void promise07TheFormCountsWhetherThereAreSuchFacesOrNot(Check check) {
        FaceZones x = Crystals.full();
        check.due("face(0, 8) with the whole form", x.face(0, 8), 16);
        x.setSystem(4);
        check.due("face(0, 8) with a part of the form", x.face(0, 8), 48);
        x.setSystem(0);
        check.due("face(0, 8) with more than the form", x.face(0, 8), 2);
    }

    // ---- promise 8

    static void promise08NoListedZone(Check check) {
        check.index("zone(0, 0) without faces", FaceZones::new, x -> x.zone(0, 0));
        check.index("zone(0, 0) of one face", Crystals::one, x -> x.zone(0, 0));
        check.index("zone(0, 0) of parallel faces", EdgeLookTest::parallel, x -> x.zone(0, 0));
        check.index("zone(0, 0) if none is listed", EdgeLookTest::unlisted, x -> x.zone(0, 0));
        check.index("zone(-1, 0) if none is listed", EdgeLookTest::unlisted, x -> x.zone(-1, 0));
    }

    static void promise08OneListedZone(Check check) {
        zoneIs(check, two(), 0, 0, 0, 1, 3);
        check.index("zone(1, 0)", EdgeLookTest::two, x -> x.zone(1, 0));
        check.index("zone(-1, 0)", EdgeLookTest::two, x -> x.zone(-1, 0));
    }

    static void promise08TheMostListedZones(Check check) {
        FaceZones x = Crystals.spread();
        check.due("zone(118, 3)", x.zone(118, 3), 2);
        check.due("zone(119, 3)", x.zone(119, 3), 2);
        check.index("zone(120, 3)", Crystals::spread, y -> y.zone(120, 3));
        check.index("zone(-1, 3)", Crystals::spread, y -> y.zone(-1, 3));
    }

    static void promise08FarZonesAreRefused(Check check) {
        check.index("zone(least int, 0)", Crystals::cube, x -> x.zone(LEAST_INT, 0));
        check.index("zone(greatest int, 0)", Crystals::cube, x -> x.zone(GREATEST_INT, 0));
        check.index("zone(4, 0) of four", Crystals::cube, x -> x.zone(4, 0));
    }

    static void promise08WhatBelow0IsRefused(Check check) {
        check.argument("zone(0, -1)", Crystals::cube, x -> x.zone(0, -1));
        check.argument("zone(3, least int)", Crystals::cube, x -> x.zone(3, LEAST_INT));
    }

    static void promise08WhatAbove4IsRefused(Check check) {
        check.argument("zone(0, 5)", Crystals::cube, x -> x.zone(0, 5));
        check.argument("zone(3, greatest int)", Crystals::cube, x -> x.zone(3, GREATEST_INT));
    }

    static void promise08TheZoneIsNamedFirst(Check check) {
        for (int what : new int[] {-1, 5, LEAST_INT, GREATEST_INT}) {
            check.index("zone(4, " + what + ")", Crystals::cube, x -> x.zone(4, what));
            check.index("zone(-1, " + what + ")", Crystals::cube, x -> x.zone(-1, what));
            check.index("zone(0, " + what + ") if none is listed", EdgeLookTest::unlisted, x -> x.zone(0, what));
        }
    }

    /** The belt's first faces, of which no two are parallel, are in one zone. */
    private static FaceZones beltOf(int faces) {
        FaceZones x = new FaceZones();
        for (int k = 1; k <= faces; k++) {
            x.addFace(1, k, 0, 0);
        }
        return x;
    }

    static void promise08AtLeastMFaces(Check check) {
        for (int m = 2; m <= 6; m++) {
            FaceZones fewer = beltOf(m - 1);
            check.due("setLeast(" + m + ") with " + (m - 1) + " faces", fewer.setLeast(m), 0);
            FaceZones asMany = beltOf(m);
            check.due("setLeast(" + m + ") with " + m + " faces", asMany.setLeast(m), 1);
            zoneIs(check, asMany, 0, 0, 0, 1, (1 << m) - 1);
            FaceZones more = beltOf(m + 1);
            check.due("setLeast(" + m + ") with " + (m + 1) + " faces", more.setLeast(m), 1);
        }
    }

    static void promise08ParallelFacesCountOneByOne(Check check) {
        FaceZones x = Check.crystal(0, 1, 0, 1, 0, 0, -1, 0, 0);
        x.setLeast(3);
        zoneIs(check, x, 0, 0, 0, 1, 7);
        FaceZones y = parallel();
        y.addFace(1, -1, 0, 0);
        y.addFace(1, -1, 0, 1);
        y.setLeast(6);
        zoneIs(check, y, 0, 1, 1, -2, 63);
    }

    static void promise08ParallelFacesTellNoZone(Check check) {
        check.due("about(4) of four parallel faces", parallel().about(4), 0);
        check.due("about(4) of opposite faces", Check.crystal(1, 2, 3, -1, -2, -3).about(4), 0);
        check.due("about(4) of a face and its twin that stays", Check.loaded("X0f01-10f11-10").about(4), 0);
    }

    static void promise08EachZoneOnce(Check check) {
        check.due("about(4) of 16 faces in a zone", Crystals.belt().about(4), 1);
        FaceZones x = Check.crystal(1, 0, 0, 0, 1, 0, -1, 0, 0, 0, -1, 0, 0, 0, 1, 0, 0, -1);
        check.due("about(4) of a cube", x.about(4), 3);
        zoneIs(check, x, 0, 1, 0, 0, 58);
        zoneIs(check, x, 1, 0, 1, 0, 53);
        zoneIs(check, x, 2, 0, 0, 1, 15);
    }

    static void promise08SixteenFacesInAZone(Check check) {
        zoneIs(check, Crystals.belt(), 0, 0, 0, 1, 65535);
    }

    static void promise08TheSixteenthFaceIsBit15(Check check) {
        FaceZones x = Crystals.spread();
        int z = x.zoneOf(0, 15);
        check.due("zone(z, 4)", x.zone(z, 4), 32769);
        check.due("zone(z, 3)", x.zone(z, 3), 2);
    }

    private static int[] cross(int[] one, int[] other) {
        return new int[] {one[1] * other[2] - one[2] * other[1], one[2] * other[0] - one[0] * other[2],
            one[0] * other[1] - one[1] * other[0]};
    }

    /** The three faces in which each two of these axes meet; they tell just these three zones. */
    private static FaceZones meeting(int[] one, int[] other, int[] third) {
        FaceZones x = new FaceZones();
        for (int[] face : new int[][] {cross(one, other), cross(other, third), cross(third, one)}) {
            x.addFace(face[0], face[1], face[2], 0);
        }
        return x;
    }

    private static void inOrder(Check check, int[] first, int[] second, int[] third) {
        int[][] due = {first, second, third};
        int[][] orders = {{0, 1, 2}, {0, 2, 1}, {1, 0, 2}, {1, 2, 0}, {2, 0, 1}, {2, 1, 0}};
        for (int[] order : orders) {
            FaceZones x = meeting(due[order[0]], due[order[1]], due[order[2]]);
            for (int z = 0; z < 3; z++) {
                for (int n = 0; n < 3; n++) {
                    check.due("zone(" + z + ", " + n + ")", x.zone(z, n), due[z][n]);
                }
            }
        }
    }

    private static int[] axis(int u, int v, int w) {
        return new int[] {u, v, w};
    }

    static void promise08MoreFacesComeFirst(Check check) {
        FaceZones x = Check.crystal(1, 0, 0, 1, -1, 0, 0, 1, -1, 1, 0, -1);
        zoneIs(check, x, 0, 1, 1, 1, 14);
        check.due("zone(1, 3)", x.zone(1, 3), 2);
    }

    static void promise08ThenTheSmallerSumComesFirst(Check check) {
        inOrder(check, axis(0, 0, 1), axis(0, 1, 1), axis(1, 0, 2));
        inOrder(check, axis(0, 1, 1), axis(1, -1, 1), axis(2, 1, 1));
        inOrder(check, axis(0, 1, 0), axis(1, 0, -1), axis(2, -1, 0));
        inOrder(check, axis(0, 1, -1), axis(1, 1, -2), axis(1, -2, -2));
    }

    static void promise08ThenTheGreaterUComesFirst(Check check) {
        inOrder(check, axis(1, 0, 0), axis(0, 1, 0), axis(0, 0, 1));
        inOrder(check, axis(2, -1, 0), axis(1, 2, 0), axis(0, 1, 2));
        inOrder(check, axis(2, -1, -1), axis(1, 0, 3), axis(0, 3, 1));
    }

    static void promise08ThenTheGreaterVComesFirst(Check check) {
        inOrder(check, axis(1, 2, 0), axis(1, 1, -1), axis(1, 0, 2));
        inOrder(check, axis(1, 1, 1), axis(1, -1, 1), axis(1, -2, 0));
        inOrder(check, axis(1, 1, 1), axis(0, 2, -1), axis(0, 1, 2));
        inOrder(check, axis(2, 0, -1), axis(2, -1, 0), axis(1, 2, 0));
    }

    static void promise08ThenTheGreaterWComesFirst(Check check) {
        inOrder(check, axis(1, 1, 1), axis(1, 1, -1), axis(1, 0, 2));
        inOrder(check, axis(1, 0, 2), axis(1, 0, -2), axis(0, 2, 1));
        inOrder(check, axis(1, 1, 1), axis(0, 2, 1), axis(0, 2, -1));
        inOrder(check, axis(2, 1, 0), axis(1, -1, 1), axis(1, -1, -1));
    }

    static void promise08TheFirstNumberThatIsNot0IsPositive(Check check) {
        int[][] pairs = {{1, 0, 0, 0, 1, 0, 0, 0, 1}, {1, 0, 0, 0, 0, 1, 0, 1, 0}, {0, 1, 0, 0, 0, 1, 1, 0, 0},
            {1, 1, 0, 0, 1, 1, 1, -1, 1}, {1, 0, 0, 0, 1, 1, 0, 1, -1}, {1, 0, 0, 0, 1, -1, 0, 1, 1},
            {1, 1, 1, 1, 2, 3, 1, -2, 1}};
        for (int[] n : pairs) {
            zoneIs(check, Check.crystal(n[0], n[1], n[2], n[3], n[4], n[5]), 0, n[6], n[7], n[8], 3);
            zoneIs(check, Check.crystal(n[3], n[4], n[5], n[0], n[1], n[2]), 0, n[6], n[7], n[8], 3);
        }
    }

    static void promise08TheAxisIsDivided(Check check) {
        zoneIs(check, Check.crystal(2, 1, 0, -1, 2, 0), 0, 0, 0, 1, 3);
        zoneIs(check, Check.crystal(1, 2, 1, 1, -2, 1), 0, 1, 0, -1, 3);
    }

    static void promise08TheAxisOfFarTwins(Check check) {
        FaceZones x = new FaceZones();
        x.setTwin(1, -3, 3);
        x.addFace(7, 8, -9, 0);
        x.addFace(-8, -9, 9, 1);
        zoneIs(check, x, 0, 105, 2931, 2687, 3);
    }

    // ---- promise 9

    static void promise09NoFace(Check check) {
        check.index("zoneOf(0, 0) without faces", FaceZones::new, x -> x.zoneOf(0, 0));
    }

    static void promise09OneFace(Check check) {
        check.due("zoneOf(0, 0)", Crystals.one().zoneOf(0, 0), NONE);
        check.index("zoneOf(0, 1)", Crystals::one, x -> x.zoneOf(0, 1));
        check.index("zoneOf(1, 0)", Crystals::one, x -> x.zoneOf(1, 0));
        check.index("zoneOf(1, 1)", Crystals::one, x -> x.zoneOf(1, 1));
    }

    static void promise09SixteenFaces(Check check) {
        check.due("zoneOf(0, 15)", Crystals.belt().zoneOf(0, 15), 0);
        check.due("zoneOf(15, 0)", Crystals.belt().zoneOf(15, 0), 0);
        check.due("zoneOf(15, 15)", Crystals.belt().zoneOf(15, 15), NONE);
        check.index("zoneOf(16, 0)", Crystals::belt, x -> x.zoneOf(16, 0));
        check.index("zoneOf(0, 16)", Crystals::belt, x -> x.zoneOf(0, 16));
    }

    static void promise09FacesThatDoNotExist(Check check) {
        for (int n : new int[] {-1, 3, LEAST_INT, GREATEST_INT}) {
            check.index("zoneOf(" + n + ", 0)", Crystals::dressed, x -> x.zoneOf(n, 0));
            check.index("zoneOf(2, " + n + ")", Crystals::dressed, x -> x.zoneOf(2, n));
            check.index("zoneOf(" + n + ", " + n + ")", Crystals::dressed, x -> x.zoneOf(n, n));
        }
    }

    static void promise09ParallelFacesTellNone(Check check) {
        FaceZones x = parallel();
        x.addFace(1, 0, 0, 0);
        for (int i = 0; i < 4; i++) {
            for (int j = 0; j < 4; j++) {
                check.due("zoneOf(" + i + ", " + j + ")", x.zoneOf(i, j), NONE);
            }
            check.due("zoneOf(" + i + ", 4)", x.zoneOf(i, 4), 0);
            check.due("zoneOf(4, " + i + ")", x.zoneOf(4, i), 0);
        }
    }

    static void promise09AZoneThatIsNotListedIsNone(Check check) {
        FaceZones x = Crystals.cube();
        check.due("zoneOf(2, 0) with m 2", x.zoneOf(2, 0), 2);
        x.setLeast(3);
        check.due("zoneOf(2, 0) with m 3", x.zoneOf(2, 0), NONE);
        check.due("zoneOf(0, 3) with m 3", x.zoneOf(0, 3), 0);
        x.setLeast(4);
        check.due("zoneOf(0, 3) with m 4", x.zoneOf(0, 3), NONE);
        check.due("zoneOf(0, 15) if none is listed", unlisted().zoneOf(0, 15), NONE);
    }

    static void promise09TheLastListedZone(Check check) {
        FaceZones x = Crystals.spread();
        int mask = x.zone(119, 4);
        int low = Integer.numberOfTrailingZeros(mask);
        int high = 31 - Integer.numberOfLeadingZeros(mask);
        check.due("zoneOf of its faces", x.zoneOf(low, high), 119);
        check.due("zoneOf of its faces, exchanged", x.zoneOf(high, low), 119);
    }

    // ---- promise 10

    static void promise10NumbersAreFromMinus99To99(Check check) {
        FaceZones x = Crystals.cube();
        int[] due = {x.inZone(1, 0, 0), x.inZone(0, 1, 0), x.inZone(0, 0, 1)};
        check.due("inZone(1, 0, 0)", due[0], 2);
        check.due("inZone(0, 1, 0)", due[1], 2);
        check.due("inZone(0, 0, 1)", due[2], 3);
        for (int n : new int[] {-99, -98, 98, 99}) {
            check.due("inZone(" + n + ", 0, 0)", x.inZone(n, 0, 0), 2);
            check.due("inZone(0, " + n + ", 0)", x.inZone(0, n, 0), 2);
            check.due("inZone(0, 0, " + n + ")", x.inZone(0, 0, n), 3);
            check.due("inZone(" + n + ", " + -n + ", 0)", x.inZone(n, -n, 0), 2);
            check.due("inZone(" + n + ", " + n + ", " + n + ")", x.inZone(n, n, n), 0);
        }
    }

    private static void refusedAxis(Check check, int n) {
        check.argument("inZone(" + n + ", 1, 1)", Crystals::dressed, x -> x.inZone(n, 1, 1));
        check.argument("inZone(1, " + n + ", 1)", Crystals::dressed, x -> x.inZone(1, n, 1));
        check.argument("inZone(1, 1, " + n + ")", Crystals::dressed, x -> x.inZone(1, 1, n));
        check.argument("inZone(" + n + ", 0, 0)", FaceZones::new, x -> x.inZone(n, 0, 0));
        check.argument("inZone(0, " + n + ", 0)", FaceZones::new, x -> x.inZone(0, n, 0));
        check.argument("inZone(0, 0, " + n + ")", FaceZones::new, x -> x.inZone(0, 0, n));
    }

    static void promise10NumbersBelowMinus99AreRefused(Check check) {
        refusedAxis(check, -100);
        refusedAxis(check, LEAST_INT);
    }

    static void promise10NumbersAbove99AreRefused(Check check) {
        refusedAxis(check, 100);
        refusedAxis(check, GREATEST_INT);
    }

    static void promise10ThreeZerosAreNone(Check check) {
        check.due("inZone(0, 0, 0)", Crystals.cube().inZone(0, 0, 0), NONE);
        check.due("inZone(0, 0, 0) without faces", new FaceZones().inZone(0, 0, 0), NONE);
        check.due("inZone(0, 0, 0) with 16 faces", Crystals.belt().inZone(0, 0, 0), NONE);
    }

    static void promise10NoFaceOneFaceSixteenFaces(Check check) {
        check.due("inZone(1, 0, 0) without faces", new FaceZones().inZone(1, 0, 0), 0);
        check.due("inZone(3, 0, -1) of one face", Crystals.one().inZone(3, 0, -1), 1);
        check.due("inZone(1, 0, 0) of one face", Crystals.one().inZone(1, 0, 0), 0);
        check.due("inZone(0, 0, 1) of sixteen faces", Crystals.belt().inZone(0, 0, 1), 16);
        check.due("inZone(1, 0, 0) of sixteen faces", Crystals.belt().inZone(1, 0, 0), 1);
    }

    static void promise10TheZoneNeedNotBeListed(Check check) {
        FaceZones x = Crystals.cube();
        x.setLeast(6);
        check.due("inZone(0, 0, 1) with m 6", x.inZone(0, 0, 1), 3);
        check.due("inZone(2, 1, 0), which no two faces tell", x.inZone(2, 1, 0), 1);
        check.due("inZone(0, 0, 1) of parallel faces", Check.crystal(1, 0, 0, -1, 0, 0).inZone(0, 0, 1), 2);
        check.due("inZone of spread faces", unlisted().inZone(0, 0, 1), 2);
    }

    static void promise10TheAxisNeedNotBeNormalized(Check check) {
        FaceZones x = Crystals.cube();
        check.due("inZone(0, 0, -50)", x.inZone(0, 0, -50), 3);
        check.due("inZone(-2, 2, 0)", x.inZone(-2, 2, 0), 2);
    }

    // ---- promise 11

    static void promise11NoListedZone(Check check) {
        check.index("cross(0, 1, 0) without faces", FaceZones::new, x -> x.cross(0, 1, 0));
        check.index("cross(0, 0, 0) if none is listed", EdgeLookTest::unlisted, x -> x.cross(0, 0, 0));
        check.index("cross(0, 1, 0) if none is listed", EdgeLookTest::unlisted, x -> x.cross(0, 1, 0));
    }

    static void promise11OneListedZone(Check check) {
        check.argument("cross(0, 0, 0)", EdgeLookTest::two, x -> x.cross(0, 0, 0));
        check.index("cross(0, 1, 0)", EdgeLookTest::two, x -> x.cross(0, 1, 0));
        check.index("cross(1, 0, 0)", EdgeLookTest::two, x -> x.cross(1, 0, 0));
        check.index("cross(1, 1, 0)", EdgeLookTest::two, x -> x.cross(1, 1, 0));
    }

    static void promise11TheMostListedZones(Check check) {
        FaceZones x = Crystals.spread();
        zoneIs(check, x, 0, 1, 0, 0, 192);
        zoneIs(check, x, 119, 19, -8, 17, 40960);
        crossIs(check, x, 0, 119, 0, 17, 8, NONE);
        crossIs(check, x, 1, 118, 16, 0, 13, NONE);
        check.argument("cross(119, 119, 0)", Crystals::spread, y -> y.cross(119, 119, 0));
        check.index("cross(0, 120, 0)", Crystals::spread, y -> y.cross(0, 120, 0));
        check.index("cross(120, 0, 0)", Crystals::spread, y -> y.cross(120, 0, 0));
    }

    static void promise11ZonesThatDoNotExist(Check check) {
        for (int n : new int[] {-1, 4, LEAST_INT, GREATEST_INT}) {
            check.index("cross(" + n + ", 0, 0)", Crystals::cube, x -> x.cross(n, 0, 0));
            check.index("cross(3, " + n + ", 3)", Crystals::cube, x -> x.cross(3, n, 3));
        }
    }

    static void promise11ZIsY(Check check) {
        for (int z = 0; z < 4; z++) {
            int both = z;
            for (int what = 0; what <= 3; what++) {
                int asked = what;
                check.argument("cross(" + z + ", " + z + ", " + what + ")", Crystals::cube,
                    x -> x.cross(both, both, asked));
            }
        }
    }

    static void promise11WhatIsFrom0To3(Check check) {
        long[] due = {0, 1, 0, 1};
        for (int what = 0; what <= 3; what++) {
            check.due("cross(0, 1, " + what + ")", Crystals.cube().cross(0, 1, what), due[what]);
        }
    }

    static void promise11WhatOutOfRangeIsRefused(Check check) {
        for (int what : new int[] {-1, 4, LEAST_INT, GREATEST_INT}) {
            check.argument("cross(0, 1, " + what + ")", Crystals::cube, x -> x.cross(0, 1, what));
            check.argument("cross(2, 2, " + what + ")", Crystals::cube, x -> x.cross(2, 2, what));
        }
    }

    static void promise11TheZonesAreNamedFirst(Check check) {
        for (int what : new int[] {-1, 4, LEAST_INT, GREATEST_INT}) {
            check.index("cross(4, 0, " + what + ")", Crystals::cube, x -> x.cross(4, 0, what));
            check.index("cross(0, -1, " + what + ")", Crystals::cube, x -> x.cross(0, -1, what));
            check.index("cross(4, 4, " + what + ")", Crystals::cube, x -> x.cross(4, 4, what));
            check.index("cross(-1, -1, " + what + ")", Crystals::cube, x -> x.cross(-1, -1, what));
        }
    }

    private static void crossIs(Check check, FaceZones x, int z, int y, long... due) {
        for (int what = 0; what < due.length; what++) {
            check.due("cross(" + z + ", " + y + ", " + what + ")", x.cross(z, y, what), due[what]);
            check.due("cross(" + y + ", " + z + ", " + what + ")", x.cross(y, z, what), due[what]);
        }
    }

    static void promise11TheDirectionIsNormalized(Check check) {
        FaceZones x = Crystals.cube();
        crossIs(check, x, 0, 1, 0, 1, 0);
        crossIs(check, x, 0, 2, 1, 0, 0);
        crossIs(check, x, 1, 2, 0, 0, 1);
        crossIs(check, x, 0, 3, 1, 1, 0);
        // The zones 1, 1, 1 and 1, -1, 1 meet in 2, 0, -2.
        FaceZones y = meeting(axis(1, 1, 1), axis(1, -1, 1), axis(1, -2, 0));
        crossIs(check, y, 0, 1, 1, 0, -1);
        crossIs(check, meeting(axis(1, 0, 0), axis(0, 1, 1), axis(0, 1, -1)), 0, 1, 0, 1, -1);
    }

    static void promise11TheFirstParallelFace(Check check) {
        FaceZones x = Check.crystal(0, 1, 0, -1, 0, 0, 0, 0, 1, 1, 0, 0);
        crossIs(check, x, 0, 1, 1, 0, 0, 1);
        x.remove(1);
        crossIs(check, x, 1, 2, 1, 0, 0, 2);
        FaceZones twins = Check.crystal(1, 0, 0, 0, 1, 0);
        twins.setTwin(0, 0, 1);
        twins.addFace(0, 0, -1, 1);
        twins.addFace(0, 0, -1, 0);
        crossIs(check, twins, 0, 1, 0, 0, 1, 2);
        check.due("cross with the face 0", Crystals.cube().cross(0, 2, 3), 0);
    }

    static void promise11TheLastFaceMayBeTheFirstParallelOne(Check check) {
        FaceZones x = Crystals.spread();
        int one = x.zoneOf(15, 0);
        int other = x.zoneOf(15, 1);
        check.due("cross of two zones of the face 15", x.cross(one, other, 3), 15);
    }

    static void promise11NoParallelFaceIsNone(Check check) {
        FaceZones x = Check.crystal(1, 1, 1, -1, 1, 1, 1, -1, 1, 1, 1, -1);
        crossIs(check, x, 0, 3, 0, 0, 1, NONE);
        crossIs(check, x, 2, 5, 1, 1, 1, 0);
    }

    /** The greatest numbers that were found; they fit in an int, but not all that they are made of. */
    static void promise11FarDirections(Check check) {
        FaceZones x = new FaceZones();
        x.setTwin(1, -3, 3);
        x.addFace(7, 8, -9, 0);
        x.addFace(-8, -9, 9, 1);
        x.addFace(9, -8, -9, 0);
        x.addFace(-9, -9, -7, 1);
        int one = x.zoneOf(0, 1);
        int other = x.zoneOf(2, 3);
        crossIs(check, x, one, other, 15625791, 1781342, -2553711, NONE);
    }

    // ---- promise 12

    static void promise12NoFace(Check check) {
        check.index("angle(0, 0) without faces", FaceZones::new, x -> x.angle(0, 0));
    }

    static void promise12OneFace(Check check) {
        check.due("angle(0, 0)", Crystals.one().angle(0, 0), 10000);
        check.index("angle(0, 1)", Crystals::one, x -> x.angle(0, 1));
        check.index("angle(1, 0)", Crystals::one, x -> x.angle(1, 0));
    }

    static void promise12SixteenFaces(Check check) {
        check.due("angle(15, 15)", Crystals.belt().angle(15, 15), 10000);
        check.due("angle(15, 1)", Crystals.belt().angle(15, 1), 9878);
        check.index("angle(16, 15)", Crystals::belt, x -> x.angle(16, 15));
        check.index("angle(15, 16)", Crystals::belt, x -> x.angle(15, 16));
    }

    static void promise12FacesThatDoNotExist(Check check) {
        for (int n : new int[] {-1, 3, LEAST_INT, GREATEST_INT}) {
            check.index("angle(" + n + ", 0)", Crystals::dressed, x -> x.angle(n, 0));
            check.index("angle(2, " + n + ")", Crystals::dressed, x -> x.angle(2, n));
            check.index("angle(" + n + ", " + n + ")", Crystals::dressed, x -> x.angle(n, n));
        }
    }

    private static void angleIs(Check check, int[] one, int[] other, int due) {
        FaceZones x = Check.crystal(one);
        x.addFace(other[0], other[1], other[2], 0);
        check.due("angle(0, 1)", x.angle(0, 1), due);
        check.due("angle(1, 0)", x.angle(1, 0), due);
    }

    static void promise12TheLeastAndTheGreatest(Check check) {
        angleIs(check, axis(1, 2, 3), axis(-1, -2, -3), -10000);
        angleIs(check, axis(1, 0, 0), axis(0, 1, 0), 0);
        angleIs(check, axis(9, 8, 7), axis(-8, 9, 0), 0);
        FaceZones x = Check.loaded("X0f01-10f11-10");
        check.due("angle of faces with one direction", x.angle(0, 1), 10000);
        FaceZones y = Check.loaded("X0f0111f1111");
        check.due("angle of a face and its twin that is turned round", y.angle(0, 1), -10000);
    }

    static void promise12TheShortestDirections(Check check) {
        check.due("angle(0, 0) of 1, 0, 0", Check.crystal(1, 0, 0).angle(0, 0), 10000);
        check.due("angle(0, 0) of 0, 0, -1", Check.crystal(0, 0, -1).angle(0, 0), 10000);
        angleIs(check, axis(0, 1, 0), axis(0, -1, 0), -10000);
        angleIs(check, axis(0, 1, 0), axis(0, 1, 1), 5000);
    }

    static void promise12IsRoundedDown(Check check) {
        // 9999.39, 6666.67, 3333.33 and 0.46
        angleIs(check, axis(9, 8, 0), axis(8, 7, 0), 9999);
        angleIs(check, axis(1, 1, 0), axis(1, 1, 1), 6666);
        angleIs(check, axis(1, 0, 0), axis(1, 1, 1), 3333);
        angleIs(check, axis(9, 8, 7), axis(-7, 8, 0), 0);
        angleIs(check, axis(9, 8, 7), axis(7, -8, 0), 0);
    }

    static void promise12NegativeOnesAreRoundedBeforeTheSign(Check check) {
        angleIs(check, axis(9, 8, 0), axis(-8, -7, 0), -9999);
        angleIs(check, axis(1, 1, 0), axis(-1, -1, 1), -6666);
        angleIs(check, axis(1, 0, 0), axis(-1, 1, 1), -3333);
    }

    static void promise12FarDirections(Check check) {
        FaceZones x = new FaceZones();
        x.setTwin(3, 3, 1);
        x.addFace(9, 8, -9, 1);
        x.addFace(9, 8, -9, 0);
        x.addFace(-9, -8, 9, 1);
        x.addFace(8, 9, -9, 1);
        check.due("angle(0, 0)", x.angle(0, 0), 10000);
        check.due("angle(0, 2)", x.angle(0, 2), -10000);
        check.due("angle(0, 1)", x.angle(0, 1), 10000L * 766 * 766 / (81586L * 226));
        check.due("angle(0, 3)", x.angle(0, 3), 10000L * 81225 * 81225 / (81586L * 81586));
    }

    // ---- promise 13

    static void promise13NoFace(Check check) {
        check.index("sameForm(0, 0) without faces", FaceZones::new, x -> x.sameForm(0, 0) ? 1 : 0);
    }

    static void promise13OneFace(Check check) {
        check.isTrue("a face is of its own form", Crystals.one().sameForm(0, 0));
        check.index("sameForm(0, 1)", Crystals::one, x -> x.sameForm(0, 1) ? 1 : 0);
        check.index("sameForm(1, 0)", Crystals::one, x -> x.sameForm(1, 0) ? 1 : 0);
    }

    static void promise13SixteenFaces(Check check) {
        FaceZones x = Crystals.full();
        for (int i = 0; i < 16; i++) {
            check.isTrue("sameForm(" + i + ", 15)", x.sameForm(i, 15));
        }
        check.index("sameForm(16, 0)", Crystals::full, y -> y.sameForm(16, 0) ? 1 : 0);
        check.index("sameForm(0, 16)", Crystals::full, y -> y.sameForm(0, 16) ? 1 : 0);
    }

    static void promise13FacesThatDoNotExist(Check check) {
        for (int n : new int[] {-1, 3, LEAST_INT, GREATEST_INT}) {
            check.index("sameForm(" + n + ", 0)", Crystals::dressed, x -> x.sameForm(n, 0) ? 1 : 0);
            check.index("sameForm(2, " + n + ")", Crystals::dressed, x -> x.sameForm(2, n) ? 1 : 0);
            check.index("sameForm(" + n + ", " + n + ")", Crystals::dressed, x -> x.sameForm(n, n) ? 1 : 0);
        }
    }

    static void promise13OtherHalvesAreOfOtherForms(Check check) {
        FaceZones x = Check.loaded("X4f0123f1123f1-1-2-3");
        check.isTrue("not sameForm(0, 1)", !x.sameForm(0, 1));
        check.isTrue("not sameForm(2, 0)", !x.sameForm(2, 0));
        check.isTrue("sameForm(1, 2)", x.sameForm(1, 2));
    }

    private static boolean isDue(int system, boolean sameOrder, boolean exchanged, int signs) {
        boolean first = (signs & 1) != 0;
        boolean second = (signs & 2) != 0;
        boolean third = (signs & 4) != 0;
        switch (system) {
            case 0: return sameOrder && first == second && second == third;
            case 1: return sameOrder && first == third;
            case 2: return sameOrder;
            case 3: return sameOrder || exchanged;
            default: return true;
        }
    }

    /** 1, 2, 3 and each of the 48 indices that are equivalent to it in the system 4. */
    static void promise13WhichFacesAreEquivalent(Check check) {
        int[][] orders = {{1, 2, 3}, {2, 1, 3}, {1, 3, 2}, {3, 2, 1}, {2, 3, 1}, {3, 1, 2}};
        for (int[] n : orders) {
            for (int signs = 0; signs < 8; signs++) {
                FaceZones x = Crystals.one();
                int h = (signs & 1) == 0 ? n[0] : -n[0];
                int k = (signs & 2) == 0 ? n[1] : -n[1];
                int l = (signs & 4) == 0 ? n[2] : -n[2];
                int other = x.whyNot(h, k, l, 0) == 0 ? x.addFace(h, k, l, 0) : 0;
                for (int system = 0; system <= 4; system++) {
                    x.setSystem(system);
                    boolean due = isDue(system, n[0] == 1 && n[1] == 2, n[0] == 2 && n[1] == 1, signs);
                    String claim = h + ", " + k + ", " + l + " in the system " + system;
                    check.isTrue(claim, x.sameForm(0, other) == due);
                    check.isTrue(claim + ", exchanged", x.sameForm(other, 0) == due);
                }
            }
        }
    }

    private static void neverOfOneForm(Check check, int[] one, int[] other) {
        FaceZones x = Check.crystal(one);
        x.addFace(other[0], other[1], other[2], 0);
        for (int system = 0; system <= 4; system++) {
            x.setSystem(system);
            check.isTrue("not of one form in the system " + system, !x.sameForm(0, 1) && !x.sameForm(1, 0));
        }
    }

    static void promise13OtherNumbersAreOfNoSystemEquivalent(Check check) {
        neverOfOneForm(check, axis(1, 2, 3), axis(1, 2, 2));
        neverOfOneForm(check, axis(1, 2, 3), axis(1, 2, 4));
        neverOfOneForm(check, axis(1, 1, 2), axis(1, 2, 2));
        neverOfOneForm(check, axis(1, 0, 0), axis(1, 1, 0));
        neverOfOneForm(check, axis(0, 1, 1), axis(0, 0, 1));
        // the same sum and squares; the same sum and product; the same squares and product
        neverOfOneForm(check, axis(1, 5, 6), axis(2, 3, 7));
        neverOfOneForm(check, axis(1, 6, 6), axis(2, 2, 9));
        neverOfOneForm(check, axis(0, 1, 8), axis(0, 4, 7));
    }

    static void promise13ZerosHaveNoSign(Check check) {
        FaceZones x = Check.crystal(1, 0, 2, -1, 0, 2);
        boolean[] due = {false, false, true, true, true};
        FaceZones y = Check.crystal(0, 1, 2, 0, -1, 2);
        boolean[] dueToo = {false, true, true, true, true};
        for (int system = 0; system <= 4; system++) {
            x.setSystem(system);
            check.isTrue("1, 0, 2 and -1, 0, 2 in the system " + system, x.sameForm(0, 1) == due[system]);
            y.setSystem(system);
            check.isTrue("0, 1, 2 and 0, -1, 2 in the system " + system, y.sameForm(0, 1) == dueToo[system]);
        }
    }

    /** Forms go by indices, not by directions. */
    static void promise13TheTwinPlaneDoesNotMatter(Check check) {
        FaceZones x = Check.loaded("X0f1123f1-1-2-3f1321");
        check.isTrue("sameForm(0, 1)", x.sameForm(0, 1));
        check.isTrue("not sameForm(0, 2)", !x.sameForm(0, 2));
        x.setTwin(1, 0, -1);
        check.isTrue("sameForm(0, 1) then", x.sameForm(0, 1));
        check.isTrue("not sameForm(0, 2) then", !x.sameForm(0, 2));
    }

    // ---- promises 6 to 13: looking changes nothing

    static void promise06ChangesNothing(Check check) {
        check.keeps("about(4)", CROWDED, x -> x.about(4));
    }

    static void promise07ChangesNothing(Check check) {
        for (int what = 0; what <= 8; what++) {
            int asked = what;
            check.keeps("face(15, " + what + ")", CROWDED, x -> x.face(15, asked));
        }
    }

    static void promise08ChangesNothing(Check check) {
        check.keeps("zone(0, 4)", CROWDED, x -> x.zone(0, 4));
    }

    static void promise09ChangesNothing(Check check) {
        check.keeps("zoneOf(0, 15)", CROWDED, x -> x.zoneOf(0, 15));
    }

    static void promise10ChangesNothing(Check check) {
        check.keeps("inZone(99, 0, -99)", CROWDED, x -> x.inZone(99, 0, -99));
        check.keeps("inZone(0, 0, 0)", CROWDED, x -> x.inZone(0, 0, 0));
    }

    static void promise11ChangesNothing(Check check) {
        check.keeps("cross(0, 1, 3)", CROWDED, x -> x.cross(0, 1, 3));
    }

    static void promise12ChangesNothing(Check check) {
        check.keeps("angle(0, 15)", CROWDED, x -> x.angle(0, 15));
    }

    static void promise13ChangesNothing(Check check) {
        check.keeps("sameForm(0, 15)", CROWDED, x -> x.sameForm(0, 15) ? 1 : 0);
    }

    public static void main(String[] args) throws IllegalAccessException {
        Edges.run(EdgeLookTest.class, 6, 13);
    }
}
