import java.util.List;

/** Promises 28 and 29: the save slots. */
public final class SlotTest {
    private static final Check check = new Check("SlotTest");
    private static final int[] WRONG_SLOTS = {-1, 2, Integer.MIN_VALUE, Integer.MAX_VALUE};

    private static FaceZones dressed() {
        FaceZones x = Check.crystal(1, 0, 0, 0, 1, 0);
        x.addFace(1, 2, 0, 1);
        x.setSystem(3);
        x.setLeast(3);
        x.setTwin(2, -1, 0);
        Check.tell(x, "X1f0123");
        return x;
    }

    private static void promise28() {
        FaceZones x = dressed();
        check.due("save(0)", x.save(0), 3);
        x.remove(0);
        check.due("save(1)", x.save(1), 2);
        for (int slot : WRONG_SLOTS) {
            check.index("save(" + slot + ")", () -> x.save(slot));
        }
        check.due("save is no action", x.undo(), 6);
        check.due("faces then", x.about(0), 3);
        check.due("restore(1) has what was saved", x.restore(1), 2);
        check.due("restore(0) has what was saved", x.restore(0), 3);
        x.remove(2);
        check.due("save(0) again", x.save(0), 2);
        x.remove(1);
        check.due("restore(0) has the newer one", x.restore(0), 2);
        check.due("save(0) of no faces", new FaceZones().save(0), 0);
    }

    private static void promise29() {
        FaceZones x = dressed();
        check.state("restore(0) before a save", () -> x.restore(0));
        check.due("undo() after a refused restore", x.undo(), 5);
        x.setTwin(2, -1, 0);
        List<Long> before = Check.view(x);
        x.save(1);
        check.state("restore(0) with the slot 1 saved", () -> x.restore(0));
        for (int slot : WRONG_SLOTS) {
            check.index("restore(" + slot + ")", () -> x.restore(slot));
        }
        x.remove(2);
        x.addFace(5, 5, 4, 1);
        x.setSystem(1);
        x.setLeast(6);
        x.setTwin(0, 1, 0);
        check.due("restore(1)", x.restore(1), 3);
        check.isTrue("restore brings back all that can be seen", Check.view(x).equals(before));
        check.state("undo() after restore", x::undo);
        x.remove(0);
        x.remove(0);
        check.due("restore(1) again", x.restore(1), 3);
        check.isTrue("the slot keeps what was saved", Check.view(x).equals(before));
        check.state("undo() after the second restore", x::undo);
        check.due("the text stays", x.clearText(), 7);
        x.setSystem(4);
        check.due("undo() of an action after restore", x.undo(), 0);
        check.due("face 2 after that", x.face(2, 1), 2);
    }

    private static void zonesFollow() {
        FaceZones x = Check.crystal(1, 0, 0, 0, 1, 0, 0, 0, 1);
        x.save(0);
        x.remove(0);
        check.due("zones before restore", x.about(4), 1);
        x.restore(0);
        check.due("zones after restore", x.about(4), 3);
    }

    private static void loadEmptiesSlots() {
        FaceZones x = dressed();
        x.save(0);
        x.save(1);
        x.load();
        check.state("restore(0) after load", () -> x.restore(0));
        check.state("restore(1) after load", () -> x.restore(1));
        check.due("save(0) after load", x.save(0), 1);
        check.due("restore(0) then", x.restore(0), 1);
        check.state("restore(1) is still empty", () -> x.restore(1));
    }

    public static void main(String[] args) {
        promise28();
        promise29();
        zonesFollow();
        loadEmptiesSlots();
        check.end();
    }
}
