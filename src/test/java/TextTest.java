/** Promises 1 to 5: a new object, and its text. */
public final class TextTest {
    private static final int NONE = FaceZones.NONE;
    private static final Check check = new Check("TextTest");

    private static void promise01() {
        FaceZones x = new FaceZones();
        int[] due = {0, 0, 0, 2, 0, 0, 0, 1, 1, 1};
        for (int what = 0; what < due.length; what++) {
            check.due("about(" + what + ") of a new object", x.about(what), due[what]);
        }
        check.due("keyFace() of a new object", x.keyFace(), NONE);
        check.due("errorPosition() of a new object", x.errorPosition(), 0);
        check.due("clearText() of a new object", x.clearText(), 0);
        check.state("undo() of a new object", x::undo);
        check.state("load() of a new object", x::load);
        check.state("restore(0) of a new object", () -> x.restore(0));
        check.state("restore(1) of a new object", () -> x.restore(1));
        check.index("face(0, 0) of a new object", () -> x.face(0, 0));
        check.index("zone(0, 0) of a new object", () -> x.zone(0, 0));
        new FaceZones().addFace(1, 0, 0, 0);
        check.due("about(0) after a face in another object", x.about(0), 0);
    }

    private static void promise02() {
        FaceZones x = new FaceZones();
        check.due("append(0)", x.append(0), 1);
        check.due("append(255)", x.append(255), 2);
        for (int c : new int[] {-1, 256, Integer.MIN_VALUE, Integer.MAX_VALUE}) {
            check.argument("append(" + c + ")", () -> x.append(c));
        }
        for (int n = 3; n <= 100; n++) {
            check.due("append(88)", x.append(88), n);
        }
        check.state("append to 100 characters", () -> x.append(88));
        check.argument("append(256) to 100 characters", () -> x.append(256));
        check.due("clearText() after that", x.clearText(), 100);
    }

    private static void promise03() {
        FaceZones x = Check.withText("X0f0100");
        check.due("clearText()", x.clearText(), 7);
        check.due("clearText() again", x.clearText(), 0);
        check.due("errorPosition() then", x.errorPosition(), 0);
        check.due("append then", x.append('X'), 1);
        check.due("errorPosition() of X", x.errorPosition(), 1);
        FaceZones y = Check.loaded("X2f0123");
        y.clearText();
        check.due("faces after clearText", y.about(0), 1);
        check.state("clearText is no action", y::undo);
    }

    private static void error(String text, int due) {
        FaceZones x = Check.withText(text);
        check.due("errorPosition() of \"" + text + "\"", x.errorPosition(), due);
        if (due != NONE) {
            check.state("load() of \"" + text + "\"", x::load);
        }
    }

    private static void headErrors() {
        error("x0", 0);
        error("0", 0);
        error("fX0", 0);
        error("X", 1);
        error("X5", 1);
        error("X-1", 1);
        error("X/", 1);
        error("X:", 1);
        error("X0", NONE);
        error("X4", NONE);
        error("X0 ", 2);
        error("X0X0", 2);
        error("X00", 2);
        error("X0F0100", 2);
        error("X0" + (char) 0, 2);
        error("X0" + (char) 255, 2);
    }

    private static void faceErrors() {
        error("X0f", 3);
        error("X0f2", 3);
        error("X0f-", 3);
        error("X0f0", 4);
        error("X0f0f", 4);
        error("X0f0+1", 4);
        error("X0f0-", 5);
        error("X0f0--1", 5);
        error("X0f0-000", 5);
        error("X0f00-0", 6);
        error("X0f01", 5);
        error("X0f010", 6);
        error("X0f01 0", 5);
        error("X0f0100", NONE);
        error("X0f1999", NONE);
        error("X0f0-9-9-9", NONE);
        error("X0f000", 6);
        error("X0f0000", 6);
        error("X0f0001", NONE);
        error("X0f000-", 7);
        error("X0f000-0", 7);
        error("X0f000-1", NONE);
        error("X0f0010", NONE);
        error("X0f01000", 7);
        error("X0f0100f0100", NONE);
        error("X0f0100X", 7);
        error("X0f0100f1000", 11);
    }

    private static void twinErrors() {
        error("X0t", 3);
        error("X0t4", 3);
        error("X0t-4", 4);
        error("X0t-0", 4);
        error("X0t300", NONE);
        error("X0t-3-3-3", NONE);
        error("X0t34", 4);
        error("X0t334", 5);
        error("X0t00", 5);
        error("X0t000", 5);
        error("X0t00-3", NONE);
        error("X0t00-4", 6);
        error("X0t001t010f0900t333", NONE);
        error("X0t001t000", 9);
    }

    private static void promise04() {
        error("", 0);
        headErrors();
        faceErrors();
        twinErrors();
        String sixteen = "X0" + "f0100".repeat(16);
        error(sixteen, NONE);
        error(sixteen + "t100", NONE);
        error(sixteen + "f", 82);
        error(sixteen + "t100f0100", 86);
        error(sixteen + "t100".repeat(4) + "t1", 100);
        FaceZones x = Check.crystal(1, 0, 0, 0, 1, 0);
        Check.tell(x, "X3f0111");
        check.due("errorPosition() beside faces", x.errorPosition(), NONE);
        check.due("errorPosition() adds no face", x.about(0), 2);
        check.due("errorPosition() sets no system", x.about(2), 0);
        check.due("errorPosition() is no action", x.undo(), 1);
    }

    private static void faceIs(FaceZones x, int i, int h, int k, int l, int half) {
        int[] due = {h, k, l, half};
        for (int what = 0; what < 4; what++) {
            check.due("face(" + i + ", " + what + ")", x.face(i, what), due[what]);
        }
    }

    private static void promise05() {
        FaceZones x = Check.withText("X3f0420f1420t111f0210f0-2-10t2-20f000-9");
        check.due("load()", x.load(), 4);
        faceIs(x, 0, 2, 1, 0, 0);
        faceIs(x, 1, 2, 1, 0, 1);
        faceIs(x, 2, -2, -1, 0, 0);
        faceIs(x, 3, 0, 0, -1, 0);
        int[] due = {4, 1, 3, 2};
        for (int what = 0; what < 4; what++) {
            check.due("about(" + what + ") after load", x.about(what), due[what]);
        }
        check.due("p after load", x.about(7), 1);
        check.due("q after load", x.about(8), -1);
        check.due("r after load", x.about(9), 0);
        check.due("load() again", x.load(), 4);
        check.due("the text is kept", x.clearText(), 39);
        FaceZones y = Check.withText("X0" + "f0100".repeat(14) + "f0010f0001");
        check.due("load() of faces told again", y.load(), 3);
        FaceZones z = Check.withText("X0f0100f0110f0120f0130f0140f0150f0160f0170f0180f0190f0101f0102f0103f0104f0105f0106");
        check.due("load() of 16 faces", z.load(), 16);
    }

    private static void loadMakesNew() {
        FaceZones x = Check.crystal(1, 0, 0, 0, 1, 0);
        x.setLeast(4);
        x.setTwin(1, 0, 0);
        x.setSystem(4);
        x.save(0);
        x.save(1);
        x.bestTwin();
        x.simulate(1, 9);
        x.runScript(1, 50201);
        Check.tell(x, "X1");
        check.due("load() of X1", x.load(), 0);
        int[] due = {0, 0, 1, 2, 0, 0, 0, 1, 1, 1};
        for (int what = 0; what < due.length; what++) {
            check.due("about(" + what + ") after load of X1", x.about(what), due[what]);
        }
        check.state("undo() after load", x::undo);
        check.state("restore(0) after load", () -> x.restore(0));
        check.state("restore(1) after load", () -> x.restore(1));
        x.addFace(1, 2, 3, 0);
        check.due("zones of an older state are gone", x.about(4), 0);
    }

    private static void refusedLoadChangesNothing() {
        FaceZones x = Check.crystal(1, 0, 0, 0, 1, 0);
        x.save(1);
        Check.tell(x, "X4f0111f0000");
        check.state("load() of a wrong text", x::load);
        check.due("undo() after a refused load", x.undo(), 1);
        check.due("restore(1) after a refused load", x.restore(1), 2);
        check.due("the text after a refused load", x.clearText(), 12);
    }

    public static void main(String[] args) {
        promise01();
        promise02();
        promise03();
        promise04();
        promise05();
        loadMakesNew();
        refusedLoadChangesNothing();
        check.end();
    }
}
