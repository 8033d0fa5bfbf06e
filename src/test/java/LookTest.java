import java.math.BigInteger;

/** Promises 6 to 13: what there is. */
public final class LookTest {
    private static final int NONE = FaceZones.NONE;
    private static final Check check = new Check("LookTest");

    /** Its zones: 0 is 0,0,1 with the faces 0, 1, 3; 1 is 1,0,0; 2 is 0,1,0; 3 is 1,-1,0. */
    private static FaceZones cube() {
        return Check.crystal(1, 0, 0, 0, 1, 0, 0, 0, 1, 1, 1, 0);
    }

    /** Six zones with two faces each, all with the sum 2. */
    private static FaceZones octahedron() {
        return Check.crystal(1, 1, 1, -1, 1, 1, 1, -1, 1, 1, 1, -1);
    }

    private static void promise06() {
        FaceZones x = cube();
        x.addFace(1, 0, 0, 1);
        x.addFace(-1, 0, 0, 0);
        x.addFace(1, 1, 1, 1);
        x.addFace(1, 1, 1, 0);
        x.setSystem(3);
        x.setTwin(3, -2, 0);
        int[] whats = {0, 1, 2, 3, 7, 8, 9};
        int[] due = {8, 2, 3, 2, 3, -2, 0};
        for (int n = 0; n < whats.length; n++) {
            check.due("about(" + whats[n] + ")", x.about(whats[n]), due[n]);
        }
        FaceZones y = cube();
        check.due("about(4) of the cube", y.about(4), 4);
        check.due("about(5) of the cube", y.about(5), 4);
        check.due("about(6) of the cube", y.about(6), 3);
        y.addFace(0, 0, -1, 0);
        y.addFace(-1, -1, 0, 0);
        check.due("about(5) with parallel faces", y.about(5), 4);
        check.due("about(4) with parallel faces", y.about(4), 4);
        check.due("about(6) with parallel faces", y.about(6), 4);
        y.setLeast(5);
        check.due("about(3) with m 5", y.about(3), 5);
        check.due("about(4) with m 5", y.about(4), 0);
        check.due("about(6) with m 5", y.about(6), 0);
        FaceZones first = new FaceZones();
        first.addFace(1, 2, 3, 1);
        check.due("about(1), the only face of half 1", first.about(1), 1);
        FaceZones z = Check.crystal(1, 1, 1);
        z.addFace(1, 1, 1, 1);
        check.due("about(5), a face and its opposite twin", z.about(5), 1);
        check.due("about(4), a face and its opposite twin", z.about(4), 0);
        for (int what : new int[] {-1, 10, Integer.MIN_VALUE, Integer.MAX_VALUE}) {
            check.argument("about(" + what + ")", () -> z.about(what));
        }
    }

    private static void direction(FaceZones x, int i, int a, int b, int c) {
        check.due("face(" + i + ", 4)", x.face(i, 4), a);
        check.due("face(" + i + ", 5)", x.face(i, 5), b);
        check.due("face(" + i + ", 6)", x.face(i, 6), c);
    }

    private static void directions() {
        FaceZones x = Check.crystal(9, -8, 7);
        direction(x, 0, 9, -8, 7);
        x.addFace(1, 0, 0, 1);
        direction(x, 1, 1, -2, -2);
        x.addFace(1, 1, 1, 1);
        direction(x, 2, -1, -1, -1);
        x.addFace(1, -1, 0, 1);
        direction(x, 3, 1, -1, 0);
        x.addFace(9, -8, 7, 1);
        direction(x, 4, 11, -40, 5);
        x.setTwin(3, -2, 1);
        direction(x, 0, 9, -8, 7);
        direction(x, 4, -87, 44, -1);
        check.due("face(4, 0) stays", x.face(4, 0), 9);
        check.due("face(4, 3)", x.face(4, 3), 1);
        x.undo();
        direction(x, 4, 11, -40, 5);
    }

    private static void formSize(int h, int k, int l, int... due) {
        FaceZones x = Check.crystal(h, k, l);
        x.addFace(h, k, l, 1);
        for (int system = 0; system <= 4; system++) {
            x.setSystem(system);
            check.due("form of " + h + k + l + " in the system " + system, x.face(0, 8), due[system]);
            check.due("form of its twin in the system " + system, x.face(1, 8), due[system]);
        }
    }

    private static void promise07() {
        FaceZones x = cube();
        int[] zones = {2, 2, 3, 2};
        for (int i = 0; i < 4; i++) {
            check.due("face(" + i + ", 7)", x.face(i, 7), zones[i]);
        }
        x.addFace(-6, 3, 9, 0);
        check.due("face(4, 0)", x.face(4, 0), -2);
        check.due("face(4, 1)", x.face(4, 1), 1);
        check.due("face(4, 2)", x.face(4, 2), 3);
        check.due("face(4, 3)", x.face(4, 3), 0);
        directions();
        formSize(1, 2, 3, 2, 4, 8, 16, 48);
        formSize(1, 0, 0, 2, 2, 2, 4, 6);
        formSize(0, 1, 0, 2, 2, 2, 4, 6);
        formSize(0, 0, -1, 2, 2, 2, 2, 6);
        formSize(1, 1, 0, 2, 4, 4, 4, 12);
        formSize(1, 1, 1, 2, 4, 8, 8, 8);
        formSize(1, -1, 2, 2, 4, 8, 8, 24);
        formSize(1, 0, 2, 2, 2, 4, 8, 24);
        formSize(9, 8, -7, 2, 4, 8, 16, 48);
        FaceZones y = cube();
        check.due("face(2, 7) with m 2", y.face(2, 7), 3);
        y.setLeast(3);
        check.due("face(2, 7) with m 3", y.face(2, 7), 0);
        check.due("face(0, 7) with m 3", y.face(0, 7), 1);
        for (int i : new int[] {-1, 4, Integer.MIN_VALUE, Integer.MAX_VALUE}) {
            check.index("face(" + i + ", 0)", () -> y.face(i, 0));
            check.index("face(" + i + ", 9)", () -> y.face(i, 9));
        }
        for (int what : new int[] {-1, 9, Integer.MIN_VALUE, Integer.MAX_VALUE}) {
            check.argument("face(0, " + what + ")", () -> y.face(0, what));
        }
    }

    private static void zoneIs(FaceZones x, int z, int u, int v, int w, int mask) {
        int[] due = {u, v, w, Integer.bitCount(mask), mask};
        for (int what = 0; what < 5; what++) {
            check.due("zone(" + z + ", " + what + ")", x.zone(z, what), due[what]);
        }
    }

    private static void promise08() {
        FaceZones x = cube();
        zoneIs(x, 0, 0, 0, 1, 11);
        zoneIs(x, 1, 1, 0, 0, 6);
        zoneIs(x, 2, 0, 1, 0, 5);
        zoneIs(x, 3, 1, -1, 0, 12);
        FaceZones y = octahedron();
        zoneIs(y, 0, 1, 1, 0, 6);
        zoneIs(y, 1, 1, 0, 1, 10);
        zoneIs(y, 2, 1, 0, -1, 5);
        zoneIs(y, 3, 1, -1, 0, 9);
        zoneIs(y, 4, 0, 1, 1, 12);
        zoneIs(y, 5, 0, 1, -1, 3);
        FaceZones z = Check.crystal(1, 0, 0, 1, -1, 0, 0, 1, -1, 1, 0, -1);
        zoneIs(z, 0, 1, 1, 1, 14);
        check.due("zone(1, 3) behind the longest", z.zone(1, 3), 2);
        FaceZones parallel = Check.crystal(0, 1, 0, 1, 0, 0, -1, 0, 0);
        zoneIs(parallel, 0, 0, 0, 1, 7);
        check.due("zones with parallel faces", parallel.about(4), 1);
        FaceZones far = Check.crystal(9, 8, 7, -7, 9, 8);
        zoneIs(far, 0, 1, -121, 137, 3);
        for (int n : new int[] {-1, 4, Integer.MIN_VALUE, Integer.MAX_VALUE}) {
            check.index("zone(" + n + ", 0)", () -> x.zone(n, 0));
            check.index("zone(" + n + ", 5)", () -> x.zone(n, 5));
        }
        for (int what : new int[] {-1, 5, Integer.MIN_VALUE, Integer.MAX_VALUE}) {
            check.argument("zone(3, " + what + ")", () -> x.zone(3, what));
        }
        x.setLeast(3);
        zoneIs(x, 0, 0, 0, 1, 11);
        check.index("zone(1, 0) with m 3", () -> x.zone(1, 0));
    }

    /** No three of these 16 faces lie in one zone, so each two of them tell a zone of their own. */
    private static void mostZones() {
        FaceZones x = Check.crystal(-1, -1, 0, -1, -1, 1, -1, 0, 0, -1, 0, 1, -2, 1, 1, -2, 2, 1, 0, -1, 2, 0, 1, 2,
            -1, -3, 2, -1, 3, 2, 2, -2, 3, 3, 1, 3, 3, 2, 3, -1, 4, 3, 1, -4, 2, -3, -5, 1);
        check.due("zones of 16 faces", x.about(4), 120);
        check.due("zones of the face 7", x.face(7, 7), 15);
        check.due("the last zone has two faces", x.zone(119, 3), 2);
        check.index("zone(120, 0)", () -> x.zone(120, 0));
        int told = 0;
        for (int i = 0; i < 16; i++) {
            for (int j = i + 1; j < 16; j++) {
                int z = x.zoneOf(i, j);
                told += z >= 0 && x.zone(z, 4) == (1 << i | 1 << j) ? 1 : 0;
            }
        }
        check.due("pairs that tell a zone of their own", told, 120);
    }

    private static void promise09() {
        FaceZones x = cube();
        x.addFace(-1, 0, 0, 0);
        check.due("zoneOf(0, 1)", x.zoneOf(0, 1), 0);
        check.due("zoneOf(1, 0)", x.zoneOf(1, 0), 0);
        check.due("zoneOf(3, 4)", x.zoneOf(3, 4), 0);
        check.due("zoneOf(0, 2)", x.zoneOf(0, 2), 1);
        check.due("zoneOf(2, 1)", x.zoneOf(2, 1), 2);
        check.due("zoneOf(2, 3)", x.zoneOf(2, 3), 3);
        check.due("zoneOf(0, 4), parallel", x.zoneOf(0, 4), NONE);
        check.due("zoneOf(2, 2)", x.zoneOf(2, 2), NONE);
        x.setLeast(4);
        check.due("zoneOf(0, 3) with m 4", x.zoneOf(0, 3), 0);
        check.due("zoneOf(0, 2) with m 4", x.zoneOf(0, 2), NONE);
        for (int n : new int[] {-1, 5, Integer.MIN_VALUE, Integer.MAX_VALUE}) {
            check.index("zoneOf(" + n + ", 0)", () -> x.zoneOf(n, 0));
            check.index("zoneOf(0, " + n + ")", () -> x.zoneOf(0, n));
        }
    }

    private static void promise10() {
        FaceZones x = cube();
        x.addFace(1, 0, 0, 1);
        check.due("inZone(0, 0, 1)", x.inZone(0, 0, 1), 3);
        check.due("inZone(0, 0, -99)", x.inZone(0, 0, -99), 3);
        check.due("inZone(99, -99, 0)", x.inZone(99, -99, 0), 2);
        check.due("inZone(2, 1, 0), told by no two faces", x.inZone(2, 1, 0), 2);
        check.due("inZone(99, 99, 99)", x.inZone(99, 99, 99), 0);
        check.due("inZone(0, 0, 0)", x.inZone(0, 0, 0), NONE);
        x.setTwin(1, 0, 0);
        check.due("inZone(0, 0, 1) with another twin plane", x.inZone(0, 0, 1), 4);
        x.setLeast(6);
        check.due("inZone(0, 0, 1) if it is not listed", x.inZone(0, 0, 1), 4);
        for (int n : new int[] {-100, 100, Integer.MIN_VALUE, Integer.MAX_VALUE}) {
            check.argument("inZone(" + n + ", 0, 0)", () -> x.inZone(n, 0, 0));
            check.argument("inZone(0, " + n + ", 0)", () -> x.inZone(0, n, 0));
            check.argument("inZone(0, 0, " + n + ")", () -> x.inZone(0, 0, n));
        }
        check.due("inZone without faces", new FaceZones().inZone(1, 0, 0), 0);
    }

    private static void crossIs(FaceZones x, int z, int y, long u, long v, long w, long parallel) {
        long[] due = {u, v, w, parallel};
        for (int what = 0; what < 4; what++) {
            check.due("cross(" + z + ", " + y + ", " + what + ")", x.cross(z, y, what), due[what]);
        }
    }

    private static void promise11() {
        FaceZones x = cube();
        crossIs(x, 0, 1, 0, 1, 0, 1);
        crossIs(x, 1, 0, 0, 1, 0, 1);
        crossIs(x, 0, 3, 1, 1, 0, 3);
        crossIs(x, 1, 3, 0, 0, 1, 2);
        FaceZones o = octahedron();
        crossIs(o, 0, 3, 0, 0, 1, NONE);
        crossIs(o, 2, 5, 1, 1, 1, 0);
        crossIs(o, 0, 5, 1, -1, -1, 1);
        FaceZones first = Check.crystal(0, 1, 0, -1, 0, 0, 0, 0, 1, 1, 0, 0);
        crossIs(first, 0, 1, 1, 0, 0, 1);
        for (int n : new int[] {-1, 4, Integer.MIN_VALUE, Integer.MAX_VALUE}) {
            check.index("cross(" + n + ", 0, 0)", () -> x.cross(n, 0, 0));
            check.index("cross(0, " + n + ", 0)", () -> x.cross(0, n, 0));
            check.index("cross(" + n + ", " + n + ", 4)", () -> x.cross(n, n, 4));
        }
        check.argument("cross(2, 2, 0)", () -> x.cross(2, 2, 0));
        for (int what : new int[] {-1, 4, Integer.MIN_VALUE, Integer.MAX_VALUE}) {
            check.argument("cross(0, 1, " + what + ")", () -> x.cross(0, 1, what));
        }
        farCrosses();
    }

    private static BigInteger axis(FaceZones x, int z, int what) {
        return BigInteger.valueOf(x.zone(z, what));
    }

    /** The greatest axes come from twinned faces. */
    private static void farCrosses() {
        FaceZones x = Check.crystal(9, 8, 7, -9, 8, 7);
        x.setTwin(3, -2, 3);
        x.addFace(9, -8, 9, 1);
        x.addFace(8, 9, -7, 1);
        long greatest = 0;
        for (int y = 1; y < x.about(4); y++) {
            BigInteger[] c = new BigInteger[3];
            for (int n = 0; n < 3; n++) {
                int k = (n + 1) % 3;
                int l = (n + 2) % 3;
                c[n] = axis(x, 0, k).multiply(axis(x, y, l)).subtract(axis(x, 0, l).multiply(axis(x, y, k)));
            }
            BigInteger divisor = c[0].gcd(c[1]).gcd(c[2]);
            int sign = c[0].signum() != 0 ? c[0].signum() : c[1].signum() != 0 ? c[1].signum() : c[2].signum();
            for (int n = 0; n < 3; n++) {
                long due = c[n].divide(divisor).longValueExact() * sign;
                check.due("far cross(0, " + y + ", " + n + ")", x.cross(0, y, n), due);
                greatest = Math.max(greatest, Math.abs(due));
            }
        }
        check.isTrue("a cross product had a number over 4000, not " + greatest, greatest > 4000);
    }

    private static void promise12() {
        FaceZones x = Check.crystal(1, 0, 0, 1, 1, 0, 1, 1, 1, -1, 1, 1, -1, 0, 0, 0, 1, 0);
        check.due("angle(0, 0)", x.angle(0, 0), 10000);
        check.due("angle(0, 1)", x.angle(0, 1), 5000);
        check.due("angle(0, 2)", x.angle(0, 2), 3333);
        check.due("angle(1, 2)", x.angle(1, 2), 6666);
        check.due("angle(2, 1)", x.angle(2, 1), 6666);
        check.due("angle(0, 3), rounded down before the sign", x.angle(0, 3), -3333);
        check.due("angle(0, 4)", x.angle(0, 4), -10000);
        check.due("angle(0, 5)", x.angle(0, 5), 0);
        x.addFace(1, 0, 0, 1);
        check.due("angle(0, 6) of a twin", x.angle(0, 6), 1111);
        x.addFace(9, -8, 7, 1);
        x.addFace(-9, 8, -7, 1);
        x.setTwin(3, -2, 1);
        check.due("angle(7, 7)", x.angle(7, 7), 10000);
        check.due("angle(7, 8)", x.angle(7, 8), -10000);
        check.due("angle(7, 0)", x.angle(7, 0), -10000L * 87 * 87 / 9506);
        for (int n : new int[] {-1, 9, Integer.MIN_VALUE, Integer.MAX_VALUE}) {
            check.index("angle(" + n + ", 0)", () -> x.angle(n, 0));
            check.index("angle(0, " + n + ")", () -> x.angle(0, n));
        }
    }

    private static void form(int[] one, int[] other, int... due) {
        FaceZones x = Check.crystal(one);
        x.addFace(other[0], other[1], other[2], 0);
        for (int system = 0; system <= 4; system++) {
            x.setSystem(system);
            String call = java.util.Arrays.toString(one) + " and " + java.util.Arrays.toString(other)
                + " of one form in the system " + system;
            check.due(call, x.sameForm(0, 1) ? 1 : 0, due[system]);
            check.due(call + ", exchanged", x.sameForm(1, 0) ? 1 : 0, due[system]);
        }
    }

    private static void promise13() {
        int[] one = {1, 2, 3};
        form(one, new int[] {-1, -2, -3}, 1, 1, 1, 1, 1);
        form(one, new int[] {-1, 2, -3}, 0, 1, 1, 1, 1);
        form(one, new int[] {1, -2, 3}, 0, 1, 1, 1, 1);
        form(one, new int[] {1, 2, -3}, 0, 0, 1, 1, 1);
        form(one, new int[] {-1, 2, 3}, 0, 0, 1, 1, 1);
        form(one, new int[] {-1, -2, 3}, 0, 0, 1, 1, 1);
        form(one, new int[] {2, 1, 3}, 0, 0, 0, 1, 1);
        form(one, new int[] {-2, 1, -3}, 0, 0, 0, 1, 1);
        form(one, new int[] {3, 2, 1}, 0, 0, 0, 0, 1);
        form(one, new int[] {2, -3, 1}, 0, 0, 0, 0, 1);
        form(one, new int[] {1, 2, 2}, 0, 0, 0, 0, 0);
        form(one, new int[] {1, 1, 4}, 0, 0, 0, 0, 0);
        form(new int[] {1, 5, 6}, new int[] {2, 3, 7}, 0, 0, 0, 0, 0);
        FaceZones x = Check.crystal(1, 2, 3);
        x.twin(0);
        x.addFace(-1, -2, -3, 1);
        check.isTrue("a face is of its own form", x.sameForm(0, 0));
        check.isTrue("faces of other halves are of other forms", !x.sameForm(0, 1));
        check.isTrue("the same of opposite indices", !x.sameForm(0, 2));
        check.isTrue("two twins may be of one form", x.sameForm(1, 2));
        for (int n : new int[] {-1, 3, Integer.MIN_VALUE, Integer.MAX_VALUE}) {
            check.index("sameForm(" + n + ", 0)", () -> x.sameForm(n, 0) ? 1 : 0);
            check.index("sameForm(0, " + n + ")", () -> x.sameForm(0, n) ? 1 : 0);
        }
    }

    public static void main(String[] args) {
        promise06();
        promise07();
        promise08();
        mostZones();
        promise09();
        promise10();
        promise11();
        promise12();
        promise13();
        check.end();
    }
}
