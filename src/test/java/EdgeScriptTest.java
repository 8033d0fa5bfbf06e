import java.math.BigInteger;
import java.util.function.Supplier;

/** The boundary cases of promises 26 and 27: scripts and simulations. */
public final class EdgeScriptTest {
    private static final int NONE = FaceZones.NONE;
    private static final int LEAST_INT = Integer.MIN_VALUE;
    private static final int GREATEST_INT = Integer.MAX_VALUE;
    /** What a digit for an index or an axis tells. */
    private static final int[] TOLD = {0, 1, 2, 3, 4, -5, -4, -3, -2, -1};

    private static void runs(Check check, Supplier<FaceZones> make, int n, long script, int due) {
        check.due("runScript(" + n + ", " + script + ")", make.get().runScript(n, script), due);
    }

    private static void succeed(Check check, Supplier<FaceZones> make, long... commands) {
        for (long command : commands) {
            runs(check, make, 1, command, NONE);
        }
    }

    private static void fail(Check check, Supplier<FaceZones> make, long... commands) {
        for (long command : commands) {
            runs(check, make, 1, command, 0);
        }
    }

    private static FaceZones fifteen() {
        FaceZones x = Crystals.full();
        x.remove(15);
        return x;
    }

    // ---- promise 26: its arguments

    static void promise26NIsFrom1To3(Check check) {
        runs(check, FaceZones::new, 1, 70000L, NONE);
        runs(check, FaceZones::new, 2, 7000070000L, NONE);
        runs(check, FaceZones::new, 3, 700007000070000L, NONE);
    }

    static void promise26NOutOfRangeIsRefused(Check check) {
        for (int n : new int[] {0, 4, -1, LEAST_INT, GREATEST_INT}) {
            check.argument("runScript(" + n + ", 0)", Crystals::dressed, x -> x.runScript(n, 0));
            check.argument("runScript(" + n + ", 70000)", Crystals::dressed, x -> x.runScript(n, 70000));
            check.argument("runScript(" + n + ", -1)", Crystals::dressed, x -> x.runScript(n, -1));
        }
    }

    static void promise26NegativeScriptsAreRefused(Check check) {
        for (int n = 1; n <= 3; n++) {
            int commands = n;
            check.argument("runScript(" + n + ", -1)", Crystals::dressed, x -> x.runScript(commands, -1));
            check.argument("runScript(" + n + ", -70000)", Crystals::dressed, x -> x.runScript(commands, -70000));
            check.argument("runScript(" + n + ", least long)", Crystals::dressed,
                x -> x.runScript(commands, Long.MIN_VALUE));
        }
    }

    static void promise26AtMostFiveDigitsACommand(Check check) {
        runs(check, FaceZones::new, 1, 99998L, 0);
        runs(check, FaceZones::new, 1, 99999L, 0);
        runs(check, FaceZones::new, 2, 9999999999L, 0);
        runs(check, FaceZones::new, 3, 999999999999999L, 0);
    }

    static void promise26OneDigitMoreIsRefused(Check check) {
        check.argument("runScript(1, 100000)", Crystals::dressed, x -> x.runScript(1, 100000L));
        check.argument("runScript(1, 7000070000)", Crystals::dressed, x -> x.runScript(1, 7000070000L));
        check.argument("runScript(2, 10000000000)", Crystals::dressed, x -> x.runScript(2, 10000000000L));
        check.argument("runScript(3, 1000000000000000)", Crystals::dressed, x -> x.runScript(3, 1000000000000000L));
        for (int n = 1; n <= 3; n++) {
            int commands = n;
            check.argument("runScript(" + n + ", greatest long)", Crystals::dressed,
                x -> x.runScript(commands, Long.MAX_VALUE));
        }
    }

    static void promise26TheScript0Fails(Check check) {
        runs(check, FaceZones::new, 1, 0, 0);
        runs(check, FaceZones::new, 2, 0, 0);
        runs(check, FaceZones::new, 3, 0, 0);
        runs(check, Crystals::cube, 3, 0, 0);
    }

    // ---- promise 26: which command fails

    static void promise26ZerosBeforeAScriptWithFewerDigits(Check check) {
        // The group 00000 is the first command of each of these.
        runs(check, Crystals::cube, 2, 70000L, 0);
        runs(check, Crystals::cube, 3, 70000L, 0);
        runs(check, Crystals::cube, 3, 7000070000L, 0);
        // The groups 07000, 00700, 00070 and 00007.
        fail(check, Crystals::cube, 7000, 700, 70, 7, 1);
        runs(check, Crystals::cube, 2, 700070000L, 0);
    }

    static void promise26TheFirstThatFailsIsTold(Check check) {
        runs(check, FaceZones::new, 1, 70001L, 0);
        runs(check, FaceZones::new, 2, 7000170000L, 0);
        runs(check, FaceZones::new, 2, 7000070001L, 1);
        runs(check, FaceZones::new, 2, 7000170001L, 0);
        runs(check, FaceZones::new, 3, 700017000070000L, 0);
        runs(check, FaceZones::new, 3, 700007000170000L, 1);
        runs(check, FaceZones::new, 3, 700007000070001L, 2);
        runs(check, FaceZones::new, 3, 700007000170001L, 1);
        runs(check, FaceZones::new, 3, 700007000000000L, 2);
    }

    static void promise26TheFirstCommandIsTheHighestGroup(Check check) {
        runs(check, FaceZones::new, 2, 1010020000L, NONE);
        runs(check, FaceZones::new, 2, 2000010100L, 0);
        runs(check, FaceZones::new, 3, 101001001070001L, NONE);
        runs(check, FaceZones::new, 3, 101007000110010L, 1);
    }

    static void promise26EachCommandSeesWhatTheOnesBeforeItDid(Check check) {
        runs(check, FaceZones::new, 3, 101009000020001L, NONE);
        runs(check, FaceZones::new, 3, 101009000020002L, 2);
        runs(check, FaceZones::new, 3, 101002000020000L, 2);
        runs(check, Crystals::one, 3, 300034000060000L, 2);
        runs(check, Crystals::one, 2, 3000340000L, NONE);
        runs(check, Crystals::one, 2, 4000020015L, 1);
        runs(check, Crystals::one, 3, 300034000020015L, NONE);
        runs(check, Crystals::one, 3, 300034000010100L, 2);
        runs(check, Crystals::one, 3, 300034000020016L, 2);
    }

    static void promise26ACommandThatFailsEndsTheScript(Check check) {
        runs(check, Crystals::dressed, 3, 200009999900000L, 1);
        check.keeps("runScript", Crystals::dressed, x -> x.runScript(3, 200009999930004L));
    }

    static void promise26RunsOnACopyOfTheState(Check check) {
        long[] scripts = {101102000230001L, 400009000150100L, 500103000040000L, 700006300190000L, 200002000020000L};
        for (long script : scripts) {
            runs(check, Crystals::dressed, 3, script, NONE);
            check.keeps("runScript(3, " + script + ")", Crystals::dressed, x -> x.runScript(3, script));
        }
        runs(check, Crystals::crowded, 3, 200001000120000L, NONE);
        check.keeps("runScript(3, 200001000120000)", Crystals::crowded, x -> x.runScript(3, 200001000120000L));
    }

    static void promise26EachScriptBeginsWithTheState(Check check) {
        FaceZones x = Crystals.one();
        check.due("runScript(1, 20000)", x.runScript(1, 20000), NONE);
        check.due("runScript(1, 20000) again", x.runScript(1, 20000), NONE);
        check.due("runScript(2, 2000020000)", x.runScript(2, 2000020000L), 1);
    }

    // ---- promise 26: the commands

    static void promise26OtherFirstDigitsFail(Check check) {
        fail(check, Crystals::full, 0, 1, 10, 100, 1000, 9999, 3004, 7000);
    }

    /** Each digit for each index: the command fails if just the face that it tells is there. */
    static void promise26Command1TellsIndicesByDigits(Check check) {
        for (int digit = 0; digit <= 9; digit++) {
            int n = TOLD[digit];
            for (int half = 0; half <= 1; half++) {
                addsJust(check, half, 10000 + half * 1000 + digit * 100 + 14, n, 1, 4);
                addsJust(check, half, 10000 + half * 1000 + 404 + digit * 10, 4, n, 4);
                addsJust(check, half, 10000 + half * 1000 + 910 + digit, -1, 1, n);
                addsJust(check, half, 10000 + half * 1000 + 500 + digit, -5, 0, n);
            }
        }
    }

    private static void addsJust(Check check, int half, long command, int h, int k, int l) {
        succeed(check, FaceZones::new, command);
        fail(check, () -> {
            FaceZones x = new FaceZones();
            x.addFace(h, k, l, half);
            return x;
        }, command);
        succeed(check, () -> {
            FaceZones x = new FaceZones();
            x.addFace(h, k, l, 1 - half);
            return x;
        }, command);
    }

    static void promise26Command1DividesIndices(Check check) {
        fail(check, () -> Check.crystal(1, 0, 0), 10200, 10300, 10400);
        fail(check, () -> Check.crystal(-1, 1, 0), 10640, 10820);
        fail(check, () -> Check.crystal(-1, 0, 0), 10500);
        succeed(check, () -> Check.crystal(1, 0, 0), 10500, 10600);
    }

    static void promise26Command1FailsWithAnotherHalf(Check check) {
        for (int half = 2; half <= 9; half++) {
            fail(check, FaceZones::new, 10000 + half * 1000 + 123);
        }
    }

    static void promise26Command1FailsIfAllIndicesAre0(Check check) {
        fail(check, FaceZones::new, 10000, 11000);
        fail(check, Crystals::cube, 10000, 11000);
    }

    static void promise26Command1UpToSixteenFaces(Check check) {
        succeed(check, EdgeScriptTest::fifteen, 10100, 11123);
        fail(check, Crystals::full, 10100, 11123, 10123, 10000);
        runs(check, EdgeScriptTest::fifteen, 2, 1010011100L, 1);
        runs(check, Crystals::full, 2, 2000010100L, NONE);
    }

    private static void facesByNumber(Check check, int first) {
        fail(check, FaceZones::new, first, first + 1, first + 99);
        fail(check, Crystals::cube, first + 4, first + 10, first + 40, first + 99);
        fail(check, Crystals::full, first + 16, first + 20, first + 99);
    }

    /** A digit where a 0 is written, beside one that tells a face that exists. */
    private static void zerosBeforeTheFace(Check check, Supplier<FaceZones> make, int first) {
        succeed(check, make, first, first + 1);
        for (int digit = 1; digit <= 9; digit++) {
            fail(check, make, first + 1000 * digit, first + 100 * digit);
            fail(check, make, first + 1000 * digit + 1, first + 100 * digit + 1);
            fail(check, make, first + 1100 * digit);
        }
    }

    static void promise26Command2RemovesAFace(Check check) {
        succeed(check, Crystals::cube, 20000, 20003);
        succeed(check, Crystals::full, 20009, 20010, 20015);
        facesByNumber(check, 20000);
        runs(check, Crystals::cube, 2, 2000020003L, 1);
        runs(check, () -> Check.crystal(1, 0, 0, 0, 1, 0), 3, 200001010020000L, NONE);
        runs(check, () -> Check.crystal(1, 0, 0, 0, 1, 0), 2, 2000010010L, 1);
        runs(check, () -> Check.crystal(1, 0, 0, 0, 1, 0), 2, 2000010100L, NONE);
    }

    static void promise26Command2AsksForTwoZeros(Check check) {
        zerosBeforeTheFace(check, Crystals::cube, 20000);
    }

    static void promise26Command3SetsTheSystem(Check check) {
        succeed(check, FaceZones::new, 30000, 30001, 30002, 30003, 30004);
        fail(check, FaceZones::new, 30005, 30006, 30007, 30008, 30009);
        // 1, 2, 3 and a face that is equivalent to it first with the system 0, 1, 2, 3 and 4
        FaceZones x = Check.crystal(1, 2, 3, -1, -2, -3, 1, -2, 3, 1, 2, -3, 2, 1, 3, 3, 2, 1);
        for (int system = 0; system <= 4; system++) {
            for (int face = 1; face <= 5; face++) {
                long script = 3000080000L + system * 100000L + face;
                check.due("runScript(2, " + script + ")", x.runScript(2, script), face <= system + 1 ? NONE : 1);
            }
        }
    }

    static void promise26Command3AsksForThreeZeros(Check check) {
        for (int digit = 1; digit <= 9; digit++) {
            for (int system = 0; system <= 4; system++) {
                fail(check, FaceZones::new, 30000 + 1000 * digit + system, 30000 + 100 * digit + system,
                    30000 + 10 * digit + system);
            }
        }
    }

    static void promise26Command4AddsAForm(Check check) {
        succeed(check, Crystals::cube, 40000, 40003);
        succeed(check, Crystals::full, 40000, 40010, 40015);
        facesByNumber(check, 40000);
        runs(check, Crystals::one, 2, 4000020001L, NONE);
        runs(check, Crystals::one, 2, 4000020002L, 1);
        runs(check, Crystals::one, 2, 4000010876L, NONE);
        runs(check, Crystals::one, 2, 4000010987L, 1);
    }

    static void promise26Command4UpToSixteenFaces(Check check) {
        runs(check, Crystals::one, 3, 300034000080015L, NONE);
        runs(check, Crystals::one, 2, 3000440000L, 1);
        runs(check, () -> Check.crystal(1, 2, 3, 1, 0, 0), 2, 3000340000L, 1);
        runs(check, () -> Check.crystal(1, 2, 3, 2, 1, 3), 3, 300034000020015L, NONE);
        runs(check, Crystals::full, 2, 3000440000L, 1);
    }

    static void promise26Command4AsksForTwoZeros(Check check) {
        zerosBeforeTheFace(check, Crystals::cube, 40000);
    }

    /** For each three digits: the face 1, 2, 3 of half 1 lies where it lies after setTwin. */
    static void promise26Command5SetsTheTwinPlane(Check check) {
        for (int digits = 0; digits <= 999; digits++) {
            int p = TOLD[digits / 100];
            int q = TOLD[digits / 10 % 10];
            int r = TOLD[digits % 10];
            boolean good = digits != 0 && Math.abs(p) <= 3 && Math.abs(q) <= 3 && Math.abs(r) <= 3;
            if (good) {
                setsPlane(check, digits, p, q, r);
            } else {
                fail(check, EdgeScriptTest::twin, 50000 + digits);
            }
        }
    }

    private static FaceZones twin() {
        FaceZones x = new FaceZones();
        x.addFace(1, 2, 3, 1);
        return x;
    }

    private static void setsPlane(Check check, int digits, int p, int q, int r) {
        succeed(check, EdgeScriptTest::twin, 50000 + digits);
        FaceZones set = twin();
        set.setTwin(p, q, r);
        FaceZones x = twin();
        for (int axis = 1; axis <= 999; axis += 17) {
            boolean lies = set.inZone(TOLD[axis / 100], TOLD[axis / 10 % 10], TOLD[axis % 10]) == 1;
            long script = (50000L + digits) * 100000 + 61000 + axis;
            check.due("runScript(2, " + script + ")", x.runScript(2, script), lies ? NONE : 1);
        }
    }

    static void promise26Command5AsksForAZero(Check check) {
        for (int digit = 1; digit <= 9; digit++) {
            fail(check, FaceZones::new, 50000 + 1000 * digit + 111, 50000 + 1000 * digit + 100,
                50000 + 1000 * digit + 1);
        }
    }

    static void promise26Command6AtLeastNFaces(Check check) {
        for (int n = 0; n <= 9; n++) {
            succeed(check, Crystals::belt, 60001 + 1000 * n);
            for (int faces = 0; faces <= 10; faces++) {
                int there = faces;
                int due = faces >= n ? NONE : 0;
                runs(check, () -> beltOf(there), 1, 60001 + 1000 * n, due);
            }
        }
    }

    private static FaceZones beltOf(int faces) {
        FaceZones x = new FaceZones();
        for (int k = 0; k < faces; k++) {
            x.addFace(1, k - 1, 0, 0);
        }
        return x;
    }

    static void promise26Command6TellsTheAxisByDigits(Check check) {
        for (int digit = 1; digit <= 9; digit++) {
            int n = TOLD[digit];
            // Just the face 4, n, 0 or its like lies in these.
            succeed(check, () -> Check.crystal(4, -n, 0), 61000 + 100 * digit + 40);
            succeed(check, () -> Check.crystal(0, 4, -n), 61000 + 10 * digit + 4);
            succeed(check, () -> Check.crystal(-n, 0, 4), 61000 + digit + 400);
            for (int other = -5; other <= 4; other++) {
                int wrong = other;
                if (wrong != n) {
                    fail(check, () -> Check.crystal(4, -wrong, 0), 61000 + 100 * digit + 40);
                    fail(check, () -> Check.crystal(0, 4, -wrong), 61000 + 10 * digit + 4);
                    fail(check, () -> Check.crystal(-wrong, 0, 4), 61000 + digit + 400);
                }
            }
        }
    }

    static void promise26Command6FailsWithTheAxis000(Check check) {
        for (int n = 0; n <= 9; n++) {
            fail(check, FaceZones::new, 60000 + 1000 * n);
            fail(check, Crystals::belt, 60000 + 1000 * n);
        }
    }

    static void promise26Command6NeedsNoListedZone(Check check) {
        succeed(check, () -> {
            FaceZones x = Crystals.cube();
            x.setLeast(6);
            return x;
        }, 63001, 62100, 61280);
        succeed(check, FaceZones::new, 60001, 60100, 60555);
        fail(check, FaceZones::new, 61001, 61100);
    }

    static void promise26Command6SeesTwins(Check check) {
        // The twin of 1, 2, 3 is -3, -2, -1, and with the plane 1, 0, 0 it is -1, 2, 3.
        succeed(check, EdgeScriptTest::twin, 61107, 61018, 61199);
        fail(check, EdgeScriptTest::twin, 61309, 61290, 61119, 61210);
        runs(check, EdgeScriptTest::twin, 2, 5010061210L, NONE);
        runs(check, EdgeScriptTest::twin, 2, 5010061107L, 1);
    }

    static void promise26Command7AtLeastXxxZones(Check check) {
        succeed(check, FaceZones::new, 70000);
        fail(check, FaceZones::new, 70001, 70010, 70100, 70999);
        succeed(check, () -> Check.crystal(1, 0, 0, 0, 1, 0), 70000, 70001);
        fail(check, () -> Check.crystal(1, 0, 0, 0, 1, 0), 70002);
        succeed(check, Crystals::cube, 70000, 70003, 70004);
        fail(check, Crystals::cube, 70005, 70040, 70400);
        succeed(check, Crystals::spread, 70000, 70012, 70099, 70100, 70119, 70120);
        fail(check, Crystals::spread, 70121, 70130, 70200, 70999);
    }

    static void promise26Command7CountsListedZonesAlone(Check check) {
        Supplier<FaceZones> make = () -> {
            FaceZones x = Crystals.cube();
            x.setLeast(3);
            return x;
        };
        succeed(check, make, 70000, 70001);
        fail(check, make, 70002, 70004);
        runs(check, make, 2, 2000070001L, 1);
        runs(check, make, 2, 2000270001L, NONE);
    }

    static void promise26Command7AsksForAZero(Check check) {
        for (int digit = 1; digit <= 9; digit++) {
            fail(check, Crystals::spread, 70000 + 1000 * digit, 70000 + 1000 * digit + 1);
            fail(check, FaceZones::new, 70000 + 1000 * digit);
        }
    }

    static void promise26Command8TellsWhetherTwoFacesAreOfOneForm(Check check) {
        Supplier<FaceZones> make = () -> Check.crystal(1, 2, 3, -1, -2, -3, 1, 2, -3);
        succeed(check, make, 80000, 80001, 80100, 80202);
        fail(check, make, 80002, 80200, 80102, 80201);
        Supplier<FaceZones> halves = () -> Check.loaded("X0f0123f1123f1-1-2-3");
        fail(check, halves, 80001, 80100, 80200);
        succeed(check, halves, 80102, 80201);
    }

    static void promise26Command8FailsIfAFaceDoesNotExist(Check check) {
        fail(check, FaceZones::new, 80000, 80001, 80100, 89999);
        fail(check, Crystals::one, 80001, 80100, 80101, 81000, 80010, 89900, 80099);
        succeed(check, Crystals::full, 80015, 81500, 81515, 80910, 81009);
        fail(check, Crystals::full, 80016, 81600, 81616, 80099, 89900, 86000);
    }

    static void promise26Command9AddsATwin(Check check) {
        succeed(check, Crystals::cube, 90000, 90003);
        facesByNumber(check, 90000);
        runs(check, Crystals::cube, 2, 9000090000L, 1);
        runs(check, Crystals::cube, 2, 9000090004L, 1);
        runs(check, Crystals::one, 3, 900002000090000L, NONE);
        runs(check, Crystals::one, 2, 9000011123L, 1);
        runs(check, Crystals::one, 3, 900002000010123L, NONE);
    }

    static void promise26Command9UpToSixteenFaces(Check check) {
        succeed(check, EdgeScriptTest::fifteen, 90000, 90010, 90014);
        fail(check, EdgeScriptTest::fifteen, 90015);
        fail(check, Crystals::full, 90000, 90015);
        runs(check, EdgeScriptTest::fifteen, 2, 9000090001L, 1);
        runs(check, Crystals::full, 2, 2000090014L, NONE);
    }

    static void promise26Command9AsksForTwoZeros(Check check) {
        zerosBeforeTheFace(check, Crystals::cube, 90000);
    }

    /** Sixteen faces in the zone 1, 1, 1, with parallel ones and both halves. */
    private static FaceZones slantedBelt() {
        FaceZones x = new FaceZones();
        for (int half = 0; half <= 1; half++) {
            for (int h = 1; h <= 4; h++) {
                x.addFace(h, 1, -h - 1, half);
                x.addFace(-h, -1, h + 1, half);
            }
        }
        return x;
    }

    /** Each of the 100000 groups as the only command, held against the model. */
    private static void eachGroup(Check check, Supplier<FaceZones> make, Model model) {
        FaceZones x = make.get();
        int used = 0;
        for (int group = 0; group <= 99999; group++) {
            // An object answers for 512 calls alone, and making it takes some of them.
            if (used == 300) {
                x = make.get();
                used = 0;
            }
            check.due("runScript(1, " + group + ")", x.runScript(1, group), model.runScript(1, group));
            used++;
        }
    }

    static void promise26EachGroupWithoutFaces(Check check) {
        eachGroup(check, FaceZones::new, new Model());
    }

    static void promise26EachGroupWithTwelveFaces(Check check) {
        Model model = new Model();
        int[][] faces = {{1, 2, 3, 0}, {1, 1, 1, 1}, {2, 1, 3, 0}, {1, -2, 3, 0}, {1, 0, 0, 0}, {-1, 0, 0, 0},
            {0, 1, 0, 0}, {0, 1, 0, 1}, {1, 2, 3, 1}, {-1, -2, -3, 1}, {4, -5, 0, 0}, {-5, 4, 3, 1}};
        for (int[] f : faces) {
            model.addFace(f[0], f[1], f[2], f[3]);
        }
        model.setSystem(3);
        eachGroup(check, () -> {
            FaceZones made = new FaceZones();
            for (int[] f : faces) {
                made.addFace(f[0], f[1], f[2], f[3]);
            }
            made.setSystem(3);
            return made;
        }, model);
    }

    static void promise26EachGroupWithSixteenFacesInAZone(Check check) {
        Model model = new Model();
        FaceZones x = slantedBelt();
        for (int i = 0; i < 16; i++) {
            model.addFace(x.face(i, 0), x.face(i, 1), x.face(i, 2), x.face(i, 3));
        }
        eachGroup(check, EdgeScriptTest::slantedBelt, model);
    }

    // ---- promise 27

    private static final long FACTOR = 6364136223846793005L;
    private static final long SUMMAND = 1442695040888963407L;

    /** The seed whose first round has this r. */
    private static long seedFor(int r) {
        // Newton's steps to the number that is 1 when it is multiplied by the factor.
        long inverse = FACTOR;
        for (int step = 0; step < 6; step++) {
            inverse *= 2 - FACTOR * inverse;
        }
        return (((long) r << 33) - SUMMAND) * inverse;
    }

    /** The first r, from some number on, that tells this face to be removed and this one to be added. */
    private static int roundThat(int from, int removed, int h, int k, int l, int half) {
        int r = from;
        while (r / 8192 % 16 != removed || r % 7 != h + 3 || r / 8 % 7 != k + 3 || r / 64 % 7 != l + 3
            || r / 512 % 2 != half) {
            r++;
        }
        return r;
    }

    private static void simulates(Check check, Supplier<FaceZones> make, long seed, int m, int due) {
        check.due("simulate(" + seed + ", " + m + ")", make.get().simulate(seed, m), due);
    }

    static void promise27MOutOfRangeIsRefused(Check check) {
        for (int m : new int[] {0, 100, -1, LEAST_INT, GREATEST_INT}) {
            check.argument("simulate(1, " + m + ")", Crystals::dressed, x -> x.simulate(1, m));
            check.argument("simulate(0, " + m + ") without faces", FaceZones::new, x -> x.simulate(0, m));
        }
    }

    static void promise27OneRound(Check check) {
        for (long seed : new long[] {0, 1, -1, 77, Long.MAX_VALUE}) {
            simulates(check, FaceZones::new, seed, 1, 1000);
        }
        // The indices of its first round are all 0.
        simulates(check, FaceZones::new, Long.MIN_VALUE, 1, 0);
    }

    /** The r of each round, by whole numbers of any size. */
    private static int[] rounds(long seed, int m) {
        BigInteger size = BigInteger.ONE.shiftLeft(64);
        BigInteger x = BigInteger.valueOf(seed);
        int[] all = new int[m];
        for (int round = 0; round < m; round++) {
            x = x.multiply(BigInteger.valueOf(FACTOR)).add(BigInteger.valueOf(SUMMAND)).mod(size);
            all[round] = x.shiftRight(33).intValueExact();
        }
        return all;
    }

    /** Makes the rounds by the calls that change the object. */
    private static int played(FaceZones x, long seed, int m) {
        int faces = x.about(0);
        for (int r : rounds(seed, m)) {
            if (faces == 16) {
                faces = x.remove(r / 8192 % 16);
            }
            int h = r % 7 - 3;
            int k = r / 8 % 7 - 3;
            int l = r / 64 % 7 - 3;
            if (x.whyNot(h, k, l, r / 512 % 2) == 0) {
                faces = x.addFace(h, k, l, r / 512 % 2) + 1;
            }
        }
        return 1000 * faces + x.about(4);
    }

    private static void asPlayed(Check check, Supplier<FaceZones> make, long seed, int m) {
        simulates(check, make, seed, m, played(make.get(), seed, m));
    }

    static void promise27NinetyNineRounds(Check check) {
        for (long seed = -20; seed <= 20; seed++) {
            for (int m = 97; m <= 99; m++) {
                asPlayed(check, FaceZones::new, seed, m);
                asPlayed(check, Crystals::full, seed, m);
            }
        }
    }

    static void promise27EachNumberOfRounds(Check check) {
        for (int m = 1; m <= 99; m++) {
            asPlayed(check, FaceZones::new, 7, m);
            asPlayed(check, Crystals::cube, -7, m);
        }
    }

    static void promise27TheLeastAndTheGreatestSeed(Check check) {
        for (long near = 0; near <= 3; near++) {
            asPlayed(check, Crystals::full, Long.MIN_VALUE + near, 50);
            asPlayed(check, Crystals::full, Long.MAX_VALUE - near, 50);
            asPlayed(check, Crystals::full, Integer.MIN_VALUE - near, 50);
            asPlayed(check, Crystals::full, Integer.MAX_VALUE + near, 50);
        }
    }

    /** Half of all x are negative; r never is. */
    static void promise27LongOverflowAndNegativeX(Check check) {
        int[] dues = {0, 1, 1 << 30, (1 << 30) - 1, Integer.MAX_VALUE, Integer.MAX_VALUE - 1};
        for (int r : dues) {
            check.due("the r of seedFor", rounds(seedFor(r), 1)[0], r);
            addsIn(check, r, r % 7 - 3, r / 8 % 7 - 3, r / 64 % 7 - 3, r / 512 % 2);
        }
        long low = seedFor(Integer.MAX_VALUE);
        asPlayed(check, Crystals::full, low, 99);
        asPlayed(check, Crystals::full, -low, 99);
    }

    /** A round that tells r adds a face if it isn't there, and none if just this face is there. */
    private static void addsIn(Check check, int r, int h, int k, int l, int half) {
        simulates(check, FaceZones::new, seedFor(r), 1, 1000);
        simulates(check, () -> {
            FaceZones x = new FaceZones();
            x.addFace(h, k, l, half);
            return x;
        }, seedFor(r), 1, 1000);
        int other = new FaceZones().whyNot(h, k, l, half) == 0 ? 2000 : 0;
        int got = Check.crystal(9, 8, 7).simulate(seedFor(r), 1);
        check.due("faces after simulate, from 1", got / 1000 * 1000, other);
    }

    static void promise27EachFaceThatARoundTells(Check check) {
        for (int h = -3; h <= 3; h++) {
            for (int k = -3; k <= 3; k++) {
                for (int l = -3; l <= 3; l++) {
                    for (int half = 0; half <= 1; half++) {
                        if (h != 0 || k != 0 || l != 0) {
                            addsIn(check, roundThat(0, 5, h, k, l, half), h, k, l, half);
                            addsIn(check, roundThat(1500000000, 9, h, k, l, half), h, k, l, half);
                        }
                    }
                }
            }
        }
    }

    static void promise27AllIndices0AddNone(Check check) {
        for (int half = 0; half <= 1; half++) {
            long seed = seedFor(roundThat(0, 3, 0, 0, 0, half));
            simulates(check, FaceZones::new, seed, 1, 0);
            simulates(check, Crystals::cube, seed, 1, 4004);
            simulates(check, EdgeScriptTest::fifteen, seed, 1, 15000 + fifteen().about(4));
        }
    }

    static void promise27TheOtherHalfIsAnotherFace(Check check) {
        Supplier<FaceZones> make = () -> Check.crystal(1, -1, 0);
        simulates(check, make, seedFor(roundThat(0, 0, 1, -1, 0, 0)), 1, 1000);
        simulates(check, make, seedFor(roundThat(0, 0, 1, -1, 0, 1)), 1, 2000);
    }

    /** With sixteen faces one is removed first; so the face that is told is added just if it is that one. */
    static void promise27WithSixteenFacesOneIsRemovedFirst(Check check) {
        int zones = Crystals.full().about(4);
        for (int removed = 0; removed < 16; removed++) {
            FaceZones x = Crystals.full();
            for (int told = 0; told < 16; told++) {
                int r = roundThat(0, removed, x.face(told, 0), x.face(told, 1), x.face(told, 2), 0);
                int got = Crystals.full().simulate(seedFor(r), 1);
                if (told == removed) {
                    check.due("simulate, the face " + told + " again", got, 16000 + zones);
                } else {
                    check.due("faces after simulate", got / 1000, 15);
                }
            }
        }
    }

    static void promise27AFaceIsRemovedAlsoIfNoneIsAdded(Check check) {
        for (int removed = 0; removed < 16; removed++) {
            FaceZones x = Crystals.crowded();
            x.remove(removed);
            long seed = seedFor(roundThat(1 << 30, removed, 0, 0, 0, 1));
            simulates(check, Crystals::crowded, seed, 1, 15000 + x.about(4));
        }
    }

    static void promise27WithFifteenFacesNoneIsRemoved(Check check) {
        for (int told = 0; told < 15; told++) {
            FaceZones x = fifteen();
            int r = roundThat(0, told, x.face(told, 0), x.face(told, 1), x.face(told, 2), 0);
            simulates(check, EdgeScriptTest::fifteen, seedFor(r), 1, 15000 + x.about(4));
        }
        check.due("faces after simulate", fifteen().simulate(seedFor(roundThat(0, 0, 1, 0, 0, 0)), 1) / 1000, 16);
    }

    static void promise27TheListedZonesAtTheEnd(Check check) {
        simulates(check, Crystals::cube, seedFor(roundThat(0, 0, 2, 0, 0, 0)), 1, 4004);
        simulates(check, Crystals::cube, seedFor(roundThat(0, 0, -1, 0, 0, 0)), 1, 5004);
        simulates(check, Crystals::cube, seedFor(roundThat(0, 0, 1, 1, 1, 0)), 1, 5006);
        simulates(check, () -> {
            FaceZones x = Crystals.cube();
            x.setLeast(4);
            return x;
        }, seedFor(roundThat(0, 0, -1, 0, 0, 0)), 1, 5001);
        // With 120 zones, 16120 is the greatest that can be told; one face of sixteen is in fifteen of them.
        simulates(check, Crystals::spread, seedFor(roundThat(0, 4, 0, 0, 0, 0)), 1, 15105);
        simulates(check, Crystals::spread, seedFor(roundThat(0, 0, -1, -1, 0, 0)), 1, 16120);
    }

    static void promise27ChangesNothing(Check check) {
        check.keeps("simulate(1, 99)", Crystals::dressed, x -> x.simulate(1, 99));
        check.keeps("simulate(-1, 99)", Crystals::crowded, x -> x.simulate(-1, 99));
        check.keeps("simulate(0, 1)", FaceZones::new, x -> x.simulate(0, 1));
    }

    static void promise27EachCallBeginsAnew(Check check) {
        FaceZones x = Crystals.cube();
        int due = played(Crystals.cube(), 5, 30);
        check.due("simulate(5, 30)", x.simulate(5, 30), due);
        check.due("simulate(5, 30) again", x.simulate(5, 30), due);
    }

    public static void main(String[] args) throws IllegalAccessException {
        Edges.run(EdgeScriptTest.class, 26, 27);
    }
}
