import java.util.ArrayList;
import java.util.List;
import java.util.function.LongSupplier;

/** Long runs of mixed calls, each answer held against the Model's: all promises at once. */
public final class RandomRunsTest {
    private static final int RUNS = 1200;
    private static final int CALLS = 512;

    private long seed;
    private final FaceZones x = new FaceZones();
    private final Model y = new Model();
    private final List<String> calls = new ArrayList<>();
    private final int span;
    private final int halves;

    private RandomRunsTest(long seed) {
        this.seed = seed * 7919 + 17;
        span = new int[] {1, 2, 3, 9}[pick(4)];
        halves = 1 + pick(2);
    }

    private int pick(int n) {
        seed = seed * 6364136223846793005L + 1442695040888963407L;
        return (int) ((seed >>> 33) % n);
    }

    private int between(int low, int high) {
        return low + pick(high - low + 1);
    }

    private static String answer(LongSupplier call) {
        try {
            return Long.toString(call.getAsLong());
        } catch (IllegalArgumentException | IllegalStateException | IndexOutOfBoundsException e) {
            return "throws." + e.getClass().getSimpleName();
        }
    }

    private boolean same(String call, LongSupplier mine, LongSupplier due) {
        String got = answer(mine);
        String want = answer(due);
        calls.add(call + " = " + got);
        if (got.equals(want)) {
            return true;
        }
        System.out.println(calls + " but due is " + want);
        return false;
    }

    private int anIndex() {
        return pick(20) == 0 ? between(-11, 11) : between(-span, span);
    }

    private int aFace() {
        return pick(12) == 0 ? between(-2, 17) : pick(Math.max(1, y.about(0)));
    }

    private int aZone() {
        return pick(12) == 0 ? between(-2, 121) : pick(Math.max(1, y.about(4)));
    }

    private int aHalf() {
        return pick(25) == 0 ? between(-1, 2) : pick(halves);
    }

    private char aCharacter() {
        String likely = "Xff0000111223459--tt";
        return pick(80) == 0 ? (char) pick(256) : likely.charAt(pick(likely.length()));
    }

    private long aScript(int n) {
        long script = 0;
        for (int c = 0; c < n; c++) {
            int first = between(0, 9);
            int group = first * 10000 + pick(10000);
            int face = aFace() & 15;
            if (pick(6) > 0) {
                switch (first) {
                    case 1: group = 10000 + pick(2) * 1000 + pick(1000); break;
                    case 2: case 4: case 9: group = first * 10000 + face; break;
                    case 3: group = 30000 + pick(6); break;
                    case 5: group = 50000 + pick(1000); break;
                    case 6: group = 60000 + pick(6) * 1000 + pick(1000); break;
                    case 7: group = 70000 + pick(50); break;
                    case 8: group = 80000 + face * 100 + (aFace() & 15); break;
                    default: break;
                }
            }
            script = script * 100000 + group;
        }
        return script;
    }

    private boolean text() {
        switch (pick(8)) {
            case 0: return same("clearText", x::clearText, y::clearText);
            case 1: case 2: return same("errorPosition", x::errorPosition, y::errorPosition);
            case 3: return same("load", x::load, y::load);
            default:
                int c = pick(30) == 0 ? between(-3, 258) : aCharacter();
                return same("append(" + c + ")", () -> x.append(c), () -> y.append(c));
        }
    }

    private boolean tellCrystal() {
        StringBuilder s = new StringBuilder("X").append(pick(5));
        int parts = pick(18);
        for (int n = 0; n < parts; n++) {
            boolean isTwin = pick(9) == 0;
            s.append(isTwin ? "t" : "f" + pick(halves));
            for (int i = 0; i < 3; i++) {
                s.append(isTwin ? between(-3, 3) : between(-span, span));
            }
        }
        boolean good = same("clearText", x::clearText, y::clearText);
        for (int n = 0; n < s.length() && good; n++) {
            int c = s.charAt(n);
            good = same("append(" + c + ")", () -> x.append(c), () -> y.append(c));
        }
        return good && same("errorPosition", x::errorPosition, y::errorPosition) && same("load", x::load, y::load);
    }

    private boolean look() {
        int i = aFace();
        int j = aFace();
        int z = aZone();
        int other = aZone();
        int what = between(-1, 10);
        switch (pick(8)) {
            case 0: return same("about(" + what + ")", () -> x.about(what), () -> y.about(what));
            case 1: return same("face(" + i + "," + what + ")", () -> x.face(i, what), () -> y.face(i, what));
            case 2: {
                int w = what / 2;
                return same("zone(" + z + "," + w + ")", () -> x.zone(z, w), () -> y.zone(z, w));
            }
            case 3: return same("zoneOf(" + i + "," + j + ")", () -> x.zoneOf(i, j), () -> y.zoneOf(i, j));
            case 4: {
                int far = pick(3) == 0 ? 101 : 2;
                int u = between(-far, far);
                int v = between(-far, far);
                int w = between(-far, far);
                return same("inZone(" + u + "," + v + "," + w + ")", () -> x.inZone(u, v, w), () -> y.inZone(u, v, w));
            }
            case 5: {
                int w = what / 2;
                return same("cross(" + z + "," + other + "," + w + ")", () -> x.cross(z, other, w),
                    () -> y.cross(z, other, w));
            }
            case 6: return same("angle(" + i + "," + j + ")", () -> x.angle(i, j), () -> y.angle(i, j));
            default: return same("sameForm(" + i + "," + j + ")", () -> x.sameForm(i, j) ? 1 : 0,
                () -> y.sameForm(i, j) ? 1 : 0);
        }
    }

    private boolean act() {
        int h = anIndex();
        int k = anIndex();
        int l = anIndex();
        int half = aHalf();
        int i = aFace();
        int n = between(-1, 7);
        switch (pick(16)) {
            case 0: return same("addForm(" + i + ")", () -> x.addForm(i), () -> y.addForm(i));
            case 1: case 2: return same("twin(" + i + ")", () -> x.twin(i), () -> y.twin(i));
            case 3: case 4: return same("remove(" + i + ")", () -> x.remove(i), () -> y.remove(i));
            case 5: case 6: return same("setSystem(" + n + ")", () -> x.setSystem(n), () -> y.setSystem(n));
            case 7: return same("setLeast(" + n + ")", () -> x.setLeast(n), () -> y.setLeast(n));
            case 8: return same("setTwin(" + h + "," + k + "," + l + ")", () -> x.setTwin(h, k, l),
                () -> y.setTwin(h, k, l));
            case 9: case 10: return same("undo", x::undo, y::undo);
            default: return same("addFace(" + h + "," + k + "," + l + "," + half + ")",
                () -> x.addFace(h, k, l, half), () -> y.addFace(h, k, l, half));
        }
    }

    private boolean imagine() {
        int n = pick(15) == 0 ? between(-1, 4) : between(1, 3);
        long script = pick(30) == 0 ? -1 - pick(9) : aScript(Math.max(0, n + (pick(20) == 0 ? 1 : 0)));
        int h = anIndex();
        int k = anIndex();
        int l = anIndex();
        int half = aHalf();
        int rounds = between(-1, 100);
        int fewRounds = pick(6) == 0 ? between(-1, 4) : pick(2);
        long start = pick(2) == 0 ? pick(100) - 50 : seed;
        switch (pick(12)) {
            case 0: return same("bestTwin", x::bestTwin, y::bestTwin);
            case 1: return same("keyFace", x::keyFace, y::keyFace);
            case 2: return same("grown(" + fewRounds + ")", () -> x.grown(fewRounds), () -> y.grown(fewRounds));
            case 3: return same("simulate(" + start + "," + rounds + ")", () -> x.simulate(start, rounds),
                () -> y.simulate(start, rounds));
            case 4: case 5: return same("whyNot(" + h + "," + k + "," + l + "," + half + ")",
                () -> x.whyNot(h, k, l, half), () -> y.whyNot(h, k, l, half));
            default: return same("runScript(" + n + "," + script + ")", () -> x.runScript(n, script),
                () -> y.runScript(n, script));
        }
    }

    private boolean slot() {
        int slot = pick(10) == 0 ? between(-1, 2) : pick(2);
        if (pick(2) == 0) {
            return same("save(" + slot + ")", () -> x.save(slot), () -> y.save(slot));
        }
        return same("restore(" + slot + ")", () -> x.restore(slot), () -> y.restore(slot));
    }

    private boolean step() {
        int kind = pick(30);
        if (kind < 2) {
            return text();
        }
        if (kind < 14) {
            return look();
        }
        if (kind < 24) {
            return act();
        }
        return kind < 29 ? imagine() : pick(4) == 0 && calls.size() < CALLS - 120 ? tellCrystal() : slot();
    }

    private boolean run() {
        if (pick(2) == 0 && !tellCrystal()) {
            return false;
        }
        while (calls.size() < CALLS) {
            if (!step()) {
                return false;
            }
        }
        return true;
    }

    public static void main(String[] args) {
        int wrong = 0;
        for (int n = 0; n < RUNS && wrong < 3; n++) {
            if (!new RandomRunsTest(n).run()) {
                wrong++;
            }
        }
        System.out.println(wrong == 0 ? RUNS + " random runs agree with the model" : wrong + " runs disagree");
        System.exit(wrong == 0 ? 0 : 1);
    }
}
