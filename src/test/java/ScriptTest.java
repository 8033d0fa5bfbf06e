/** Promises 26 and 27: scripts and simulations. */
public final class ScriptTest {
    private static final int NONE = FaceZones.NONE;
    private static final Check check = new Check("ScriptTest");

    private static FaceZones cube() {
        return Check.crystal(1, 0, 0, 0, 1, 0, 0, 0, 1, 1, 1, 0);
    }

    private static FaceZones full() {
        FaceZones x = Check.crystal(1, 2, 3);
        x.setSystem(3);
        x.addForm(0);
        return x;
    }

    private static void script(FaceZones x, int n, long script, int due) {
        check.due("runScript(" + n + ", " + script + ")", x.runScript(n, script), due);
    }

    private static void good(FaceZones x, long... commands) {
        for (long command : commands) {
            script(x, 1, command, NONE);
        }
    }

    private static void bad(FaceZones x, long... commands) {
        for (long command : commands) {
            script(x, 1, command, 0);
        }
    }

    private static void arguments() {
        FaceZones x = cube();
        for (int n : new int[] {0, 4, -1, Integer.MIN_VALUE, Integer.MAX_VALUE}) {
            check.argument("runScript(" + n + ", 0)", () -> x.runScript(n, 0));
        }
        for (long script : new long[] {-1, Long.MIN_VALUE, Long.MAX_VALUE, 1000000000000000L}) {
            for (int n = 1; n <= 3; n++) {
                int commands = n;
                check.argument("runScript(" + n + ", " + script + ")", () -> x.runScript(commands, script));
            }
        }
        check.argument("runScript(1, 100000)", () -> x.runScript(1, 100000));
        check.argument("runScript(2, 10000000000)", () -> x.runScript(2, 10000000000L));
        script(x, 1, 99999, 0);
        script(x, 2, 9999999999L, 0);
        script(x, 3, 999999999999999L, 0);
        script(x, 1, 0, 0);
        script(x, 3, 0, 0);
    }

    private static void order() {
        FaceZones x = new FaceZones();
        script(x, 2, 10100L, 0);
        script(x, 2, 1010010100L, 1);
        script(x, 2, 1010010010L, NONE);
        script(x, 3, 101001001010100L, 2);
        script(x, 3, 101001001010001L, NONE);
        script(x, 3, 101002000020000L, 2);
        script(x, 3, 101000000010200L, 1);
        check.due("a script changes no faces", x.about(0), 0);
        check.state("a script is no action", x::undo);
    }

    private static void adding() {
        FaceZones x = new FaceZones();
        good(x, 10100, 11100, 10500, 10444, 10999, 11555);
        bad(x, 10000, 11000, 12100, 19100);
        script(x, 2, 1050010900L, 1);
        script(x, 2, 1040010100L, 1);
        script(x, 2, 1010010900L, NONE);
        script(x, 2, 1010011100L, NONE);
        // -5, 1, 0 lies in the zone -1, -5, 0, and -4, 0, 1 in the zone 1, 0, 4.
        script(x, 2, 1051061950L, NONE);
        script(x, 2, 1060161104L, NONE);
        bad(full(), 10100, 10123, 11123);
    }

    private static void facesByNumber() {
        FaceZones x = cube();
        good(x, 20000, 20003, 40002, 90003, 80303, 80000);
        bad(x, 20004, 20099, 20100, 21000, 40004, 40100, 41000, 90004, 90100, 91000, 80004, 80400, 89900);
        script(x, 2, 2000020003L, 1);
        script(x, 3, 200002000080001L, 2);
        script(x, 2, 9000090000L, 1);
        script(x, 2, 9000090004L, 1);
        script(x, 2, 4000020004L, NONE);
        script(x, 2, 4000020005L, 1);
        script(x, 2, 4000110900L, NONE);
        script(x, 2, 4000010900L, 1);
        script(x, 3, 900002000090003L, NONE);
        FaceZones y = full();
        good(y, 20015, 80015, 40000, 80915, 81509);
        bad(y, 20016, 90000, 90015, 80016, 81600);
        script(y, 2, 2000090014L, NONE);
        script(y, 2, 3000440000L, 1);
        FaceZones z = Check.crystal(1, 2, 3, 1, 0, 0);
        script(z, 2, 3000240000L, NONE);
        script(z, 2, 3000340000L, 1);
        script(z, 3, 300022000140000L, NONE);
    }

    private static void systems() {
        FaceZones x = Check.crystal(1, 2, 3, 2, 1, 3, 1, -2, 3);
        good(x, 30000, 30004);
        bad(x, 30005, 30009, 30010, 30100, 31000, 80001, 80002);
        script(x, 2, 3000380001L, NONE);
        script(x, 2, 3000280001L, 1);
        script(x, 2, 3000180002L, NONE);
        script(x, 2, 3000080002L, 1);
        check.due("a script sets no system", x.about(2), 0);
    }

    private static void planes() {
        FaceZones x = new FaceZones();
        x.addFace(1, 0, 0, 1);
        good(x, 50110, 50333, 50777, 50007, 50900);
        bad(x, 50000, 50400, 50060, 50005, 51110, 59110);
        bad(x, 61010);
        script(x, 2, 5010061010L, NONE);
        script(x, 2, 5030061010L, NONE);
        script(x, 2, 5011061010L, 1);
        check.due("a script sets no twin plane", x.about(8), 1);
    }

    private static void zones() {
        FaceZones x = cube();
        good(x, 63001, 63009, 60001, 61100, 62100, 60444, 61910, 61190, 62009);
        bad(x, 64001, 69001, 60000, 69000, 63100, 63110, 61444);
        good(x, 70000, 70004, 70001);
        bad(x, 70005, 70100, 70999, 71000, 79000);
        script(x, 2, 2000270001L, NONE);
        script(x, 2, 2000270002L, 1);
        x.setLeast(3);
        good(x, 70001, 63001, 62100);
        bad(x, 70002);
        FaceZones empty = new FaceZones();
        good(empty, 60001, 70000);
        bad(empty, 61001, 70001, 60000);
        bad(cube(), 0, 100, 9999);
    }

    private static void promise26() {
        arguments();
        order();
        adding();
        facesByNumber();
        systems();
        planes();
        zones();
    }

    /** Makes the rounds on the object itself, by the calls that change it. */
    private static int played(FaceZones x, long seed, int m) {
        long state = seed;
        for (int round = 0; round < m; round++) {
            state = state * 6364136223846793005L + 1442695040888963407L;
            int r = (int) (state >>> 33);
            if (x.about(0) == 16) {
                x.remove(r / 8192 % 16);
            }
            if (x.whyNot(r % 7 - 3, r / 8 % 7 - 3, r / 64 % 7 - 3, r / 512 % 2) == 0) {
                x.addFace(r % 7 - 3, r / 8 % 7 - 3, r / 64 % 7 - 3, r / 512 % 2);
            }
        }
        return 1000 * x.about(0) + x.about(4);
    }

    private static void promise27() {
        long[] seeds = {0, 1, -1, 5, 77, 123456789, Long.MIN_VALUE, Long.MAX_VALUE, 4294967296L};
        for (long seed : seeds) {
            for (int m : new int[] {1, 2, 7, 16, 20, 40, 99}) {
                check.due("simulate(" + seed + ", " + m + ")", new FaceZones().simulate(seed, m),
                    played(new FaceZones(), seed, m));
                FaceZones y = full();
                y.setLeast(3);
                y.setTwin(2, 0, -1);
                check.due("simulate(" + seed + ", " + m + ") with 16 faces", y.simulate(seed, m), played(y, seed, m));
            }
        }
        FaceZones x = cube();
        x.simulate(5, 99);
        check.due("simulate adds no face", x.about(0), 4);
        check.due("simulate is no action", x.undo(), 3);
        for (int m : new int[] {0, 100, -1, Integer.MIN_VALUE, Integer.MAX_VALUE}) {
            check.argument("simulate(1, " + m + ")", () -> x.simulate(1, m));
        }
    }

    public static void main(String[] args) {
        promise26();
        promise27();
        check.end();
    }
}
