/** Objects to test on, each made anew by its method. */
final class Crystals {
    private Crystals() {
    }

    static FaceZones none() {
        return new FaceZones();
    }

    static FaceZones one() {
        return Check.crystal(1, 2, 3);
    }

    /** Its zones: 0 is 0,0,1 with the faces 0, 1, 3; 1 is 1,0,0; 2 is 0,1,0; 3 is 1,-1,0. */
    static FaceZones cube() {
        return Check.crystal(1, 0, 0, 0, 1, 0, 0, 0, 1, 1, 1, 0);
    }

    /** Sixteen faces of half 0: the form of 1, 2, 3 in the system 3, which it has; three states are remembered. */
    static FaceZones full() {
        FaceZones x = one();
        x.setSystem(3);
        x.addForm(0);
        return x;
    }

    /** Sixteen faces in the only zone 0, 0, 1, the last one being -1, 9, 0; no two are parallel. */
    static FaceZones belt() {
        FaceZones x = Check.crystal(1, 0, 0, 0, 1, 0, 1, 1, 0, 1, -1, 0, 1, 2, 0, 1, -2, 0, 2, 1, 0, 2, -1, 0);
        for (int k = 3; k <= 9; k++) {
            x.addFace(1, k, 0, 0);
        }
        x.addFace(-1, 9, 0, 0);
        return x;
    }

    /** Sixteen faces, no three of which lie in one zone, so that each two tell a zone of their own: 120 zones. */
    static FaceZones spread() {
        return Check.crystal(-1, -1, 0, -1, -1, 1, -1, 0, 0, -1, 0, 1, -2, 1, 1, -2, 2, 1, 0, -1, 2, 0, 1, 2,
            -1, -3, 2, -1, 3, 2, 2, -2, 3, 3, 1, 3, 3, 2, 3, -1, 4, 3, 1, -4, 2, -3, -5, 1);
    }

    /** Three faces; everything about it is other than in a new object, and six states are remembered. */
    static FaceZones dressed() {
        FaceZones x = Check.crystal(1, 0, 0, 0, 1, 0);
        x.save(0);
        x.setSystem(3);
        x.addFace(1, 2, 0, 1);
        x.save(1);
        x.setTwin(2, -1, 0);
        x.setLeast(3);
        Check.tell(x, "X1f0123");
        return x;
    }

    /** Sixteen faces of both halves; fourteen states are remembered, both slots are full, and so is the text. */
    static FaceZones crowded() {
        FaceZones x = new FaceZones();
        x.addFace(1, 0, 0, 0);
        x.save(1);
        for (int n = 1; n <= 8; n++) {
            x.addFace(n, 1, -1, 1);
        }
        x.save(0);
        x.setTwin(1, -2, 0);
        for (int n = 2; n <= 8; n++) {
            x.addFace(1, n, 2, 0);
        }
        x.setSystem(2);
        Check.tell(x, hundred());
        return x;
    }

    /** A crystal of 100 characters with sixteen faces; the twin plane of its last part is 1, 2, 3. */
    static String hundred() {
        StringBuilder text = new StringBuilder("X4");
        for (int k = 0; k <= 7; k++) {
            text.append("f01").append(k).append("1f11").append(k).append("0");
        }
        return text.append("t-1-1-1t-3-3-3t123").toString();
    }
}
