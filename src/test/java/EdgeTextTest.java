import java.util.List;
import java.util.function.Supplier;

/** The boundary cases of promises 1 to 5: a new object, and its text. */
public final class EdgeTextTest {
    private static final int NONE = FaceZones.NONE;
    private static final int[] WRONG_CODES = {-1, 256, 'X' + 256, 'X' - 256, Integer.MIN_VALUE, Integer.MAX_VALUE};
    /** Ninety-nine characters that are the beginning of a crystal of a hundred. */
    private static final String NINETY_NINE = Crystals.hundred().substring(0, 99);

    private static void abouts(Check check, String of, FaceZones x, int... due) {
        for (int what = 0; what < due.length; what++) {
            check.due("about(" + what + ") of " + of, x.about(what), due[what]);
        }
    }

    private static void faceIs(Check check, FaceZones x, int i, int... due) {
        for (int what = 0; what < due.length; what++) {
            check.due("face(" + i + ", " + what + ")", x.face(i, what), due[what]);
        }
    }

    private static void error(Check check, String text, int due) {
        check.due("errorPosition() of \"" + text + "\"", Check.withText(text).errorPosition(), due);
    }

    private static void loads(Check check, String text, int due) {
        check.due("load() of \"" + text + "\"", Check.withText(text).load(), due);
    }

    private static FaceZones dressedWith(String text) {
        FaceZones x = Crystals.dressed();
        x.clearText();
        Check.tell(x, text);
        return x;
    }

    // ---- promise 1

    static void promise01NoFaces(Check check) {
        FaceZones x = new FaceZones();
        check.due("about(0)", x.about(0), 0);
        check.due("about(1)", x.about(1), 0);
        check.due("about(5)", x.about(5), 0);
        check.index("face(0, 0)", () -> x.face(0, 0));
    }

    static void promise01NoListedZone(Check check) {
        FaceZones x = new FaceZones();
        check.due("about(4)", x.about(4), 0);
        check.due("about(6)", x.about(6), 0);
        check.index("zone(0, 0)", () -> x.zone(0, 0));
    }

    static void promise01SystemIs0AtFirst(Check check) {
        check.due("about(2)", new FaceZones().about(2), 0);
        check.due("setSystem(3)", new FaceZones().setSystem(3), 0);
    }

    static void promise01LeastIs2AtFirst(Check check) {
        check.due("about(3)", new FaceZones().about(3), 2);
    }

    static void promise01TwinPlaneIs111AtFirst(Check check) {
        FaceZones x = new FaceZones();
        for (int what = 7; what <= 9; what++) {
            check.due("about(" + what + ")", x.about(what), 1);
        }
    }

    static void promise01TextIsEmpty(Check check) {
        check.due("clearText()", new FaceZones().clearText(), 0);
        check.due("errorPosition()", new FaceZones().errorPosition(), 0);
        check.due("append('X')", new FaceZones().append('X'), 1);
        check.state("load()", FaceZones::new, FaceZones::load);
    }

    static void promise01NothingIsRemembered(Check check) {
        check.state("undo()", FaceZones::new, FaceZones::undo);
    }

    static void promise01NothingIsSaved(Check check) {
        check.state("restore(0)", FaceZones::new, x -> x.restore(0));
        check.state("restore(1)", FaceZones::new, x -> x.restore(1));
    }

    static void promise01ObjectsAreApart(Check check) {
        FaceZones before = new FaceZones();
        Crystals.crowded();
        check.isTrue("another object changes nothing", Check.view(before).equals(Check.view(new FaceZones())));
        check.state("undo()", before::undo);
        check.state("restore(1)", () -> before.restore(1));
        check.due("clearText()", before.clearText(), 0);
    }

    /** An object is used for at most 512 calls, so the last of them must still be as promised. */
    static void promise01The512thCallIsPromised(Check check) {
        FaceZones x = new FaceZones();
        for (int n = 1; n <= 100; n++) {
            check.due("append('f')", x.append('f'), 1);
            check.due("errorPosition()", x.errorPosition(), 0);
            check.due("clearText()", x.clearText(), 1);
            check.due("setSystem", x.setSystem(n % 5), (n - 1) % 5);
            check.due("about(2)", x.about(2), n % 5);
        }
        for (int n = 501; n <= 509; n++) {
            check.due("call " + n + ": addFace", x.addFace(1, n - 500, 0, 0), n - 501);
        }
        check.due("call 510: undo()", x.undo(), 13);
        check.due("call 511: about(0)", x.about(0), 8);
        check.due("call 512: about(4)", x.about(4), 1);
    }

    static void promise01EachOf512CallsIsPromised(Check check) {
        FaceZones x = Crystals.cube();
        int[] due = {4, 0, 0, 2, 4, 4, 3, 1, 1, 1};
        for (int call = 5; call <= 512; call++) {
            check.due("call " + call + ": about", x.about(call % 10), due[call % 10]);
        }
    }

    // ---- promise 2

    static void promise02CodesAreFrom0To255(Check check) {
        for (int c = 0; c <= 255; c++) {
            check.due("append(" + c + ")", new FaceZones().append(c), 1);
        }
    }

    static void promise02CodeBelow0IsRefused(Check check) {
        check.argument("append(-1)", Crystals::dressed, x -> x.append(-1));
        check.argument("append(-1)", FaceZones::new, x -> x.append(-1));
    }

    static void promise02CodeAbove255IsRefused(Check check) {
        check.argument("append(256)", Crystals::dressed, x -> x.append(256));
        check.argument("append(256)", FaceZones::new, x -> x.append(256));
    }

    static void promise02FarCodesAreRefused(Check check) {
        for (int c : WRONG_CODES) {
            check.argument("append(" + c + ")", Crystals::dressed, x -> x.append(c));
        }
    }

    static void promise02RefusedCharacterIsNotAppended(Check check) {
        FaceZones x = new FaceZones();
        check.argument("append('X' + 256)", () -> x.append('X' + 256));
        check.due("errorPosition()", x.errorPosition(), 0);
        check.due("append('X')", x.append('X'), 1);
        check.due("errorPosition() then", x.errorPosition(), 1);
    }

    static void promise02NewLengthIsFrom1To100(Check check) {
        FaceZones x = new FaceZones();
        for (int n = 1; n <= 100; n++) {
            check.due("append, character " + n, x.append(n), n);
        }
    }

    static void promise02TheHundredthCharacterIsAllowed(Check check) {
        check.due("append to 99 characters", Check.withText(NINETY_NINE).append('3'), 100);
    }

    static void promise02TheHundredAndFirstIsRefused(Check check) {
        Supplier<FaceZones> full = () -> Check.withText(Crystals.hundred());
        check.state("append('t') to 100 characters", full, x -> x.append('t'));
        check.state("append(0) to 100 characters", full, x -> x.append(0));
        check.state("append(255) to 100 characters", Crystals::crowded, x -> x.append(255));
    }

    static void promise02FullTextNamesTheArgumentFirst(Check check) {
        for (int c : WRONG_CODES) {
            check.argument("append(" + c + ") to 100 characters", Crystals::crowded, x -> x.append(c));
        }
    }

    static void promise02FullTextTakesMoreOnceItIsEmptied(Check check) {
        FaceZones x = Crystals.crowded();
        x.clearText();
        check.due("append after clearText()", x.append('X'), 1);
    }

    static void promise02IsNoAction(Check check) {
        FaceZones x = Check.crystal(1, 0, 0, 0, 1, 0);
        x.append('X');
        check.due("undo()", x.undo(), 1);
        check.due("about(0)", x.about(0), 1);
    }

    // ---- promise 3

    static void promise03EmptyText(Check check) {
        check.due("clearText() of a new object", new FaceZones().clearText(), 0);
        FaceZones x = Check.withText("X0");
        check.due("clearText()", x.clearText(), 2);
        check.due("clearText() again", x.clearText(), 0);
    }

    static void promise03OneCharacter(Check check) {
        check.due("clearText()", Check.withText("X").clearText(), 1);
    }

    static void promise03FullText(Check check) {
        check.due("clearText() of 99 characters", Check.withText(NINETY_NINE).clearText(), 99);
        check.due("clearText() of 100 characters", Check.withText(Crystals.hundred()).clearText(), 100);
    }

    static void promise03NoCharacterIsLeft(Check check) {
        FaceZones x = Check.withText("X0f0123");
        x.clearText();
        check.due("errorPosition() of the emptied text", x.errorPosition(), 0);
        x.append('X');
        check.due("errorPosition() of X", x.errorPosition(), 1);
        x.append('1');
        check.due("errorPosition() of X1", x.errorPosition(), NONE);
        check.due("load() of X1", x.load(), 0);
    }

    static void promise03ChangesNothingElse(Check check) {
        FaceZones x = Crystals.dressed();
        List<Long> before = Check.view(x);
        x.clearText();
        check.isTrue("clearText() keeps the state", Check.view(x).equals(before));
        check.due("undo() after clearText()", x.undo(), 5);
        check.due("restore(0) after clearText()", x.restore(0), 2);
        check.due("restore(1) after clearText()", x.restore(1), 3);
    }

    // ---- promise 4

    static void promise04EmptyText(Check check) {
        error(check, "", 0);
    }

    static void promise04SystemAloneIsACrystal(Check check) {
        for (char system = '0'; system <= '4'; system++) {
            error(check, "X" + system, NONE);
        }
    }

    /** Each of the 256 characters behind a beginning without an error: it is an error just if it isn't allowed. */
    private static void allows(Check check, String begin, String allowed) {
        for (char c = 0; c <= 255; c++) {
            int got = Check.withText(begin + c).errorPosition();
            String call = "errorPosition() of \"" + begin + "\" and the character " + (int) c;
            if (allowed.indexOf(c) < 0) {
                check.due(call, got, begin.length());
            } else {
                check.isTrue(call + " is behind it or NONE, not " + got, got == NONE || got == begin.length() + 1);
            }
        }
    }

    static void promise04TheFirstCharacterIsX(Check check) {
        allows(check, "", "X");
    }

    static void promise04TheSystemIsADigitFrom0To4(Check check) {
        allows(check, "X", "01234");
    }

    static void promise04PartsBeginWithFOrT(Check check) {
        allows(check, "X0", "ft");
        allows(check, "X4", "ft");
        allows(check, "X0f0100", "ft");
        allows(check, "X0f1-1-1-1", "ft");
        allows(check, "X0t100", "ft");
        allows(check, "X0t-1-1-1", "ft");
        allows(check, "X0t001f0001t100f0001", "ft");
    }

    static void promise04TheHalfIs0Or1(Check check) {
        allows(check, "X0f", "01");
        allows(check, "X0t100f", "01");
    }

    static void promise04FirstIndexOfAFace(Check check) {
        allows(check, "X0f0", "-0123456789");
        allows(check, "X0f1", "-0123456789");
        allows(check, "X0f0-", "123456789");
        allows(check, "X0f1-", "123456789");
    }

    static void promise04SecondIndexOfAFace(Check check) {
        allows(check, "X0f00", "-0123456789");
        allows(check, "X0f19", "-0123456789");
        allows(check, "X0f0-9", "-0123456789");
        allows(check, "X0f00-", "123456789");
        allows(check, "X0f1-9-", "123456789");
    }

    static void promise04ThirdIndexOfAFace(Check check) {
        allows(check, "X0f010", "-0123456789");
        allows(check, "X0f001", "-0123456789");
        allows(check, "X0f199", "-0123456789");
        allows(check, "X0f0-10", "-0123456789");
        allows(check, "X0f00-9", "-0123456789");
        allows(check, "X0f010-", "123456789");
        allows(check, "X0f1-9-9-", "123456789");
    }

    static void promise04TheThird0OfAFaceIsNotAllowed(Check check) {
        allows(check, "X0f000", "-123456789");
        allows(check, "X0f100", "-123456789");
        allows(check, "X0f000-", "123456789");
        allows(check, "X0f0111t111f000", "-123456789");
    }

    static void promise04FirstIndexOfTheTwinPlane(Check check) {
        allows(check, "X0t", "-0123");
        allows(check, "X0t-", "123");
    }

    static void promise04SecondIndexOfTheTwinPlane(Check check) {
        allows(check, "X0t0", "-0123");
        allows(check, "X0t3", "-0123");
        allows(check, "X0t-3", "-0123");
        allows(check, "X0t0-", "123");
        allows(check, "X0t-3-", "123");
    }

    static void promise04ThirdIndexOfTheTwinPlane(Check check) {
        allows(check, "X0t10", "-0123");
        allows(check, "X0t01", "-0123");
        allows(check, "X0t0-1", "-0123");
        allows(check, "X0t-10", "-0123");
        allows(check, "X0t33", "-0123");
        allows(check, "X0t10-", "123");
        allows(check, "X0t-3-3-", "123");
    }

    static void promise04TheThird0OfTheTwinPlaneIsNotAllowed(Check check) {
        allows(check, "X0t00", "-123");
        allows(check, "X0t00-", "123");
        allows(check, "X0f0100t111t00", "-123");
    }

    /** Ends of this text that are crystals are behind a part; all others are too soon. */
    static void promise04TextThatEndsTooSoonAtEachPlace(Check check) {
        String text = "X3f0123f1-1-2-3f000-9t123t-1-2-3t00-1f0010";
        List<Integer> ends = List.of(2, 7, 15, 21, 25, 32, 37, 42);
        for (int n = 0; n <= text.length(); n++) {
            error(check, text.substring(0, n), ends.contains(n) ? NONE : n);
        }
    }

    static void promise04AWrongCharacterAtEachPlace(Check check) {
        String text = "X3f0123f1-1-2-3f000-9t123t-1-2-3t00-1f0010";
        for (int n = 0; n < text.length(); n++) {
            error(check, text.substring(0, n) + " " + text.substring(n), n);
            error(check, text.substring(0, n) + "?" + text.substring(n + 1), n);
        }
        error(check, text + " ", text.length());
    }

    static void promise04TheFirstErrorIsTold(Check check) {
        error(check, "x9g", 0);
        error(check, "X9g", 1);
        error(check, "X0g9", 2);
        error(check, "X0f0000f2", 6);
        error(check, "X0t400f2", 3);
        error(check, "X0f", 3);
        error(check, "X0f2t0", 3);
    }

    static void promise04PartsInAnyOrder(Check check) {
        error(check, "X0t100f0100", NONE);
        error(check, "X0f0100t100", NONE);
        error(check, "X0t100f1100t010t001f1010f0001t111", NONE);
    }

    static void promise04OneOrTwoZerosAreAllowed(Check check) {
        for (String indices : new String[] {"100", "010", "001", "-100", "0-10", "00-1", "110", "101", "011"}) {
            error(check, "X0f0" + indices, NONE);
            error(check, "X0f1" + indices, NONE);
            error(check, "X0t" + indices, NONE);
        }
    }

    static void promise04TheSixteenthFIsAllowed(Check check) {
        error(check, "X0" + "f0100".repeat(15) + "f", 78);
        error(check, "X0" + "f0100".repeat(16), NONE);
        error(check, "X0t100" + "f1123".repeat(16) + "t010", NONE);
    }

    static void promise04TheSeventeenthFIsNotAllowed(Check check) {
        error(check, "X0" + "f0100".repeat(16) + "f", 82);
        error(check, "X0" + "f0100".repeat(16) + "f0100", 82);
        error(check, "X0t100" + "f1123".repeat(16) + "t010f", 90);
        allows(check, "X0" + "f0100".repeat(16), "t");
        allows(check, "X0" + "f0100".repeat(8) + "t100" + "f1010".repeat(8), "t");
    }

    static void promise04AFaceMayBeToldAgain(Check check) {
        error(check, "X0f0100f0100", NONE);
        error(check, "X0f0100f0200f0900", NONE);
        error(check, "X0f1111f1999", NONE);
    }

    static void promise04AnyNumberOfTwinPlanes(Check check) {
        error(check, "X0" + "t100".repeat(24), NONE);
        error(check, "X0" + "t-1-1-1".repeat(14), NONE);
        error(check, "X0" + "t100".repeat(24) + "t1", 100);
    }

    static void promise04HundredCharacters(Check check) {
        check.due("length", Crystals.hundred().length(), 100);
        error(check, Crystals.hundred(), NONE);
        error(check, NINETY_NINE, 99);
        error(check, NINETY_NINE + "4", 99);
        error(check, NINETY_NINE + "-", 100);
        error(check, "X0" + "t-1-1-1".repeat(13) + "t-1-1-0", 99);
        error(check, "f".repeat(100), 0);
    }

    static void promise04TheTextIsReadAsItStands(Check check) {
        FaceZones x = Check.withText("X0f0000");
        check.due("errorPosition()", x.errorPosition(), 6);
        check.due("errorPosition() again", x.errorPosition(), 6);
        check.due("clearText()", x.clearText(), 7);
        Check.tell(x, "X0f0");
        check.due("errorPosition() of another text", x.errorPosition(), 4);
        Check.tell(x, "001");
        check.due("errorPosition() of the longer text", x.errorPosition(), NONE);
    }

    static void promise04FacesOfTheStateDoNotCount(Check check) {
        FaceZones x = Crystals.full();
        Check.tell(x, "X0" + "f1100".repeat(16));
        check.due("errorPosition() with 16 faces", x.errorPosition(), NONE);
    }

    static void promise04ChangesNothing(Check check) {
        for (String text : new String[] {"", "X0f0111t001", "X2f0111t001f0000", "X", Crystals.hundred()}) {
            check.keeps("errorPosition() of \"" + text + "\"", () -> dressedWith(text), FaceZones::errorPosition);
        }
    }

    // ---- promise 5

    static void promise05EmptyTextIsRefused(Check check) {
        check.state("load() of the empty text", () -> dressedWith(""), FaceZones::load);
    }

    static void promise05TextThatEndsTooSoonIsRefused(Check check) {
        String text = "X3f1-12-3t0-1";
        for (int n = 0; n <= text.length(); n++) {
            String begin = text.substring(0, n);
            if (n == 2 || n == 9) {
                loads(check, begin, n == 2 ? 0 : 1);
            } else {
                check.state("load() of \"" + begin + "\"", () -> dressedWith(begin), FaceZones::load);
            }
        }
    }

    static void promise05WrongTextChangesNothing(Check check) {
        String[] wrong = {"X5", "Y0", "X0f0000", "X2f0111 ", "X2f0111t000", "X0f0111f2", "X0" + "f0100".repeat(17)};
        for (String text : wrong) {
            check.state("load() of \"" + text + "\"", () -> dressedWith(text), FaceZones::load);
        }
    }

    static void promise05WrongTextKeepsFullHistoryAndSlots(Check check) {
        check.state("load() of 99 characters", () -> {
            FaceZones x = Crystals.crowded();
            x.clearText();
            Check.tell(x, NINETY_NINE);
            return x;
        }, FaceZones::load);
    }

    static void promise05NoFaces(Check check) {
        FaceZones x = dressedWith("X4");
        check.due("load() of X4", x.load(), 0);
        abouts(check, "X4", x, 0, 0, 4, 2, 0, 0, 0, 1, 1, 1);
    }

    static void promise05EachSystem(Check check) {
        for (int system = 0; system <= 4; system++) {
            FaceZones x = dressedWith("X" + system + "f0100");
            check.due("load()", x.load(), 1);
            check.due("about(2)", x.about(2), system);
        }
    }

    static void promise05OneFace(Check check) {
        FaceZones x = dressedWith("X0f1-940");
        check.due("load()", x.load(), 1);
        faceIs(check, x, 0, -9, 4, 0, 1);
        check.index("face(1, 0)", () -> x.face(1, 0));
    }

    static void promise05SixteenFaces(Check check) {
        FaceZones x = dressedWith(Crystals.hundred());
        check.due("load()", x.load(), 16);
        for (int i = 0; i < 16; i++) {
            faceIs(check, x, i, 1, i / 2, 1 - i % 2, i % 2);
        }
        check.state("addFace(9, 8, 7, 0)", () -> x.addFace(9, 8, 7, 0));
        check.due("about(0)", x.about(0), 16);
    }

    static void promise05AFaceToldAgainIsNotAdded(Check check) {
        loads(check, "X0f0100f0100", 1);
        loads(check, "X0f0100f0900f0200", 1);
        loads(check, "X0f0-2-2-2f0-9-9-9f0-1-1-1", 1);
        loads(check, "X0" + "f1123".repeat(16), 1);
        loads(check, "X0f0100f1100", 2);
        loads(check, "X0f0100f0-100", 2);
        FaceZones x = Check.loaded("X0f0012f0100f0024f0010");
        check.due("about(0)", x.about(0), 3);
        faceIs(check, x, 0, 0, 1, 2, 0);
        faceIs(check, x, 1, 1, 0, 0, 0);
        faceIs(check, x, 2, 0, 1, 0, 0);
    }

    static void promise05IndicesFromMinus9To9(Check check) {
        FaceZones x = Check.loaded("X0f0-98-7f1-17-9f09-89f1001f000-9");
        faceIs(check, x, 0, -9, 8, -7, 0);
        faceIs(check, x, 1, -1, 7, -9, 1);
        faceIs(check, x, 2, 9, -8, 9, 0);
        faceIs(check, x, 3, 0, 0, 1, 1);
        faceIs(check, x, 4, 0, 0, -1, 0);
    }

    static void promise05IndicesAreDivided(Check check) {
        FaceZones x = Check.loaded("X0f04-20f0-96-3f1080f0777");
        faceIs(check, x, 0, 2, -1, 0, 0);
        faceIs(check, x, 1, -3, 2, -1, 0);
        faceIs(check, x, 2, 0, 1, 0, 1);
        faceIs(check, x, 3, 1, 1, 1, 0);
    }

    private static void planeOf(Check check, String text, int p, int q, int r) {
        FaceZones x = dressedWith(text);
        x.load();
        check.due("p of " + text, x.about(7), p);
        check.due("q of " + text, x.about(8), q);
        check.due("r of " + text, x.about(9), r);
    }

    static void promise05TheTwinPlaneIs111IfNoneIsTold(Check check) {
        planeOf(check, "X1f1100", 1, 1, 1);
    }

    static void promise05TheTwinPlaneOfTheText(Check check) {
        planeOf(check, "X1t3-21", 3, -2, 1);
        planeOf(check, "X1t-32-3", -3, 2, -3);
        planeOf(check, "X1t00-1", 0, 0, -1);
        planeOf(check, "X1t0-10", 0, -1, 0);
    }

    static void promise05TheTwinPlaneIsDividedAndKeepsItsSigns(Check check) {
        planeOf(check, "X1t2-20", 1, -1, 0);
        planeOf(check, "X1t-3-3-3", -1, -1, -1);
        planeOf(check, "X1t00-3", 0, 0, -1);
    }

    static void promise05ALaterTwinPlaneReplacesAnEarlierOne(Check check) {
        planeOf(check, "X1t100t010", 0, 1, 0);
        planeOf(check, "X1t123f0111t321f0112t1-10", 1, -1, 0);
        FaceZones x = Check.loaded("X1t100f1100t010");
        faceIs(check, x, 0, 1, 0, 0, 1, 1, 0, 0);
    }

    static void promise05LeastIs2Then(Check check) {
        FaceZones x = dressedWith("X0f0100f0010");
        x.setLeast(6);
        x.load();
        check.due("about(3)", x.about(3), 2);
        check.due("about(4)", x.about(4), 1);
    }

    static void promise05ForgetsAllRememberedStates(Check check) {
        FaceZones x = Crystals.crowded();
        x.load();
        check.state("undo() after load()", x::undo);
        check.due("about(0)", x.about(0), 16);
        x.remove(0);
        check.due("undo() of an action after load()", x.undo(), 0);
        check.due("about(0) then", x.about(0), 16);
        check.state("undo() once more", x::undo);
    }

    static void promise05RemembersFourteenAgain(Check check) {
        FaceZones x = Crystals.crowded();
        x.load();
        for (int n = 1; n <= 16; n++) {
            x.remove(0);
        }
        for (int left = 13; left >= 0; left--) {
            check.due("undo()", x.undo(), left);
        }
        check.due("about(0)", x.about(0), 14);
        check.state("undo()", x::undo);
    }

    static void promise05EmptiesBothSlots(Check check) {
        FaceZones x = Crystals.crowded();
        x.load();
        check.state("restore(0) after load()", () -> x.restore(0));
        check.state("restore(1) after load()", () -> x.restore(1));
        x.save(1);
        check.state("restore(0) with the slot 1 saved", () -> x.restore(0));
        check.due("restore(1)", x.restore(1), 16);
        x.load();
        check.state("restore(1) after another load()", () -> x.restore(1));
    }

    static void promise05KeepsTheText(Check check) {
        FaceZones x = dressedWith("X2f0123t00-1");
        check.due("load()", x.load(), 1);
        check.due("errorPosition()", x.errorPosition(), NONE);
        x.addFace(1, 0, 0, 0);
        check.due("load() again", x.load(), 1);
        check.due("clearText()", x.clearText(), 12);
    }

    static void promise05NothingOfTheOldStateIsLeft(Check check) {
        FaceZones x = Crystals.crowded();
        x.clearText();
        Check.tell(x, "X0f0100f1123");
        x.load();
        FaceZones y = new FaceZones();
        y.addFace(1, 0, 0, 0);
        y.addFace(1, 2, 3, 1);
        check.isTrue("load() makes all as in a new object first", Check.view(x).equals(Check.view(y)));
        check.due("zoneOf(0, 1)", x.zoneOf(0, 1), y.zoneOf(0, 1));
        check.index("face(2, 0)", () -> x.face(2, 0));
    }

    static void promise05IsNoAction(Check check) {
        FaceZones x = Check.loaded("X0f0100f0010");
        check.state("undo()", x::undo);
    }

    public static void main(String[] args) throws IllegalAccessException {
        Edges.run(EdgeTextTest.class, 1, 5);
    }
}
