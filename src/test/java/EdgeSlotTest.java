import java.util.List;
import java.util.function.Supplier;

/** The boundary cases of promises 28 and 29: the save slots. */
public final class EdgeSlotTest {
    private static final int[] WRONG_SLOTS = {-1, 2, Integer.MIN_VALUE, Integer.MAX_VALUE};

    private static FaceZones savedIn(int slot) {
        FaceZones x = Check.crystal(1, 0, 0, 0, 1, 0);
        x.save(slot);
        x.remove(0);
        Check.tell(x, "X0f");
        return x;
    }

    private static FaceZones loaded() {
        FaceZones x = Crystals.crowded();
        x.load();
        return x;
    }

    // ---- promise 28

    static void promise28TheSlotsAre0And1(Check check) {
        for (int slot = 0; slot <= 1; slot++) {
            FaceZones x = Crystals.dressed();
            check.due("save(" + slot + ")", x.save(slot), 3);
            x.remove(0);
            check.due("restore(" + slot + ")", x.restore(slot), 3);
        }
    }

    static void promise28OtherSlotsAreRefused(Check check) {
        for (int slot : WRONG_SLOTS) {
            check.index("save(" + slot + ")", Crystals::dressed, x -> x.save(slot));
            check.index("save(" + slot + ") without faces", FaceZones::new, x -> x.save(slot));
            check.index("save(" + slot + ") with 16 faces", Crystals::crowded, x -> x.save(slot));
        }
    }

    static void promise28NoFaceOneFaceSixteenFaces(Check check) {
        check.due("save(0) without faces", new FaceZones().save(0), 0);
        check.due("save(1) of one face", Crystals.one().save(1), 1);
        check.due("save(0) of sixteen faces", Crystals.crowded().save(0), 16);
    }

    static void promise28TheSlotsAreApart(Check check) {
        FaceZones x = Check.crystal(1, 0, 0);
        x.save(0);
        x.addFace(0, 1, 0, 0);
        x.save(1);
        x.addFace(0, 0, 1, 0);
        check.due("restore(0)", x.restore(0), 1);
        check.due("restore(1)", x.restore(1), 2);
        check.due("restore(0) again", x.restore(0), 1);
    }

    static void promise28ALaterStateReplacesTheEarlierOne(Check check) {
        FaceZones x = Crystals.crowded();
        x.remove(0);
        check.due("save(0)", x.save(0), 15);
        x.remove(0);
        x.remove(0);
        check.due("save(0) again", x.save(0), 13);
        x.addFace(0, 0, 1, 0);
        check.due("restore(0)", x.restore(0), 13);
    }

    static void promise28LaterActionsDoNotReachTheSlot(Check check) {
        FaceZones x = Crystals.dressed();
        List<Long> before = Check.view(x);
        x.save(1);
        x.setSystem(1);
        x.setLeast(6);
        x.setTwin(0, 0, 1);
        x.remove(1);
        x.addFace(1, 2, 3, 1);
        x.undo();
        x.restore(1);
        check.isTrue("restore(1) brings back what was saved", Check.view(x).equals(before));
    }

    static void promise28IsNoAction(Check check) {
        FaceZones x = Crystals.dressed();
        x.save(0);
        check.due("undo() takes setLeast back", x.undo(), 5);
        check.due("about(3)", x.about(3), 2);
        FaceZones y = new FaceZones();
        y.save(1);
        check.state("undo() after save alone", y::undo);
    }

    static void promise28KeepsWhatIsThere(Check check) {
        FaceZones x = Crystals.crowded();
        x.save(0);
        x.save(1);
        check.isTrue("save keeps the state", Check.view(x).equals(Check.view(Crystals.crowded())));
        check.due("errorPosition()", x.errorPosition(), FaceZones.NONE);
        for (int left = 13; left >= 0; left--) {
            check.due("undo()", x.undo(), left);
        }
    }

    static void promise28OneSlotLeavesTheOther(Check check) {
        for (int slot = 0; slot <= 1; slot++) {
            int other = 1 - slot;
            FaceZones x = new FaceZones();
            x.save(slot);
            check.state("restore(" + other + ")", () -> x.restore(other));
        }
    }

    // ---- promise 29

    static void promise29OtherSlotsAreRefused(Check check) {
        for (int slot : WRONG_SLOTS) {
            check.index("restore(" + slot + ")", Crystals::dressed, x -> x.restore(slot));
            check.index("restore(" + slot + ") with full history", Crystals::crowded, x -> x.restore(slot));
            check.index("restore(" + slot + ") with nothing saved", FaceZones::new, x -> x.restore(slot));
            check.index("restore(" + slot + ") after load", EdgeSlotTest::loaded, x -> x.restore(slot));
        }
    }

    static void promise29NothingSavedIsRefused(Check check) {
        for (int slot = 0; slot <= 1; slot++) {
            int asked = slot;
            check.state("restore(" + slot + ") of a new object", FaceZones::new, x -> x.restore(asked));
            check.state("restore(" + slot + ") with the other one saved", () -> savedIn(1 - asked),
                x -> x.restore(asked));
            check.due("restore(" + slot + ") with this one saved", savedIn(asked).restore(asked), 2);
        }
    }

    static void promise29NothingSavedSinceTheLastLoadIsRefused(Check check) {
        for (int slot = 0; slot <= 1; slot++) {
            int asked = slot;
            check.state("restore(" + slot + ") after load", EdgeSlotTest::loaded, x -> x.restore(asked));
            check.state("restore(" + slot + ") with the other one saved since", () -> {
                FaceZones x = loaded();
                x.remove(0);
                x.save(1 - asked);
                x.remove(0);
                return x;
            }, x -> x.restore(asked));
            FaceZones x = loaded();
            x.remove(0);
            x.save(asked);
            x.remove(0);
            check.due("restore(" + slot + ") with this one saved since", x.restore(asked), 15);
        }
    }

    static void promise29ARefusedLoadKeepsTheSlots(Check check) {
        FaceZones x = savedIn(0);
        x.save(1);
        check.state("load() of a text that ends too soon", x::load);
        check.due("restore(0)", x.restore(0), 2);
        check.due("restore(1)", x.restore(1), 1);
    }

    static void promise29NoFaceOneFaceSixteenFaces(Check check) {
        FaceZones x = new FaceZones();
        x.save(0);
        x.addFace(1, 2, 3, 1);
        x.save(1);
        check.due("restore(0)", x.restore(0), 0);
        check.index("face(0, 0)", () -> x.face(0, 0));
        check.due("restore(1)", x.restore(1), 1);
        check.due("face(0, 3)", x.face(0, 3), 1);
        FaceZones y = Crystals.crowded();
        y.save(1);
        y.remove(15);
        check.due("restore(1) of sixteen faces", y.restore(1), 16);
        check.state("addFace then", () -> y.addFace(0, 0, 1, 0));
    }

    static void promise29BringsBackTheWholeState(Check check) {
        FaceZones x = Crystals.dressed();
        x.save(0);
        x.remove(0);
        x.setSystem(1);
        x.setLeast(2);
        x.setTwin(1, 1, 0);
        x.restore(0);
        check.isTrue("all is as it was saved", Check.view(x).equals(Check.view(Crystals.dressed())));
        int[] due = {3, 1, 3, 3, 1, 3, 3, 2, -1, 0};
        for (int what = 0; what < due.length; what++) {
            check.due("about(" + what + ")", x.about(what), due[what]);
        }
    }

    static void promise29NothingOfTheReplacedStateIsLeft(Check check) {
        FaceZones x = Crystals.dressed();
        x.restore(0);
        check.isTrue("all is as it was saved", Check.view(x).equals(Check.view(Check.crystal(1, 0, 0, 0, 1, 0))));
    }

    static void promise29ForgetsAllRememberedStates(Check check) {
        Supplier<FaceZones> make = () -> {
            FaceZones x = Crystals.crowded();
            x.restore(1);
            return x;
        };
        check.state("undo()", make, FaceZones::undo);
        FaceZones x = make.get();
        x.addFace(0, 0, 1, 1);
        check.due("undo() of an action after restore", x.undo(), 0);
        check.due("about(0)", x.about(0), 1);
        check.state("undo() once more", x::undo);
    }

    static void promise29RemembersFourteenAgain(Check check) {
        FaceZones x = Crystals.crowded();
        x.restore(1);
        for (int n = 1; n <= 15; n++) {
            x.addFace(n - 6, 9, 1, 0);
        }
        for (int left = 13; left >= 0; left--) {
            check.due("undo()", x.undo(), left);
        }
        check.due("about(0)", x.about(0), 2);
        check.state("undo() of a forgotten state", x::undo);
    }

    static void promise29IsNoAction(Check check) {
        FaceZones x = Crystals.dressed();
        x.restore(1);
        x.restore(0);
        check.state("undo()", x::undo);
    }

    static void promise29TheSlotKeepsTheState(Check check) {
        FaceZones x = Crystals.dressed();
        for (int n = 0; n < 3; n++) {
            check.due("restore(1)", x.restore(1), 3);
            check.due("face(2, 1)", x.face(2, 1), 2);
            x.remove(2);
            x.remove(0);
            x.setSystem(n);
        }
        check.due("restore(1) once more", x.restore(1), 3);
        check.due("about(2)", x.about(2), 3);
    }

    static void promise29KeepsTheTextAndTheOtherSlot(Check check) {
        FaceZones x = savedIn(0);
        x.save(1);
        check.due("restore(0)", x.restore(0), 2);
        check.due("restore(1)", x.restore(1), 1);
        check.due("errorPosition()", x.errorPosition(), 3);
        check.due("clearText()", x.clearText(), 3);
    }

    static void promise29UndoDoesNotReachTheSlots(Check check) {
        FaceZones x = Crystals.dressed();
        for (int n = 0; n < 6; n++) {
            x.undo();
        }
        check.due("about(0)", x.about(0), 0);
        check.due("restore(0)", x.restore(0), 2);
        check.due("restore(1)", x.restore(1), 3);
    }

    static void promise29ZonesFollow(Check check) {
        FaceZones x = Crystals.cube();
        x.save(0);
        x.remove(2);
        check.due("about(4)", x.about(4), 1);
        x.restore(0);
        check.due("about(4) then", x.about(4), 4);
        check.due("zone(3, 4)", x.zone(3, 4), 12);
    }

    public static void main(String[] args) throws IllegalAccessException {
        Edges.run(EdgeSlotTest.class, 28, 29);
    }
}
