import java.util.ArrayList;
import java.util.List;
import java.util.function.LongSupplier;

/** Counts what is not as due, and tells it. */
final class Check {
    private final String name;
    private int done = 0;
    private int wrong = 0;

    Check(String name) {
        this.name = name;
    }

    void due(String call, long got, long want) {
        done++;
        if (got != want) {
            fail(call + " answered " + got + ", due is " + want);
        }
    }

    void isTrue(String claim, boolean holds) {
        done++;
        if (!holds) {
            fail("does not hold: " + claim);
        }
    }

    /** The call throws exactly this exception, and the object shows the same before and after. */
    void refused(String call, Class<? extends RuntimeException> want, FaceZones x, LongSupplier run) {
        done++;
        List<Long> before = view(x);
        String got = "nothing";
        try {
            run.getAsLong();
        } catch (RuntimeException e) {
            got = e.getClass().getName();
        }
        if (!got.equals(want.getName())) {
            fail(call + " throws " + got + ", due is " + want.getName());
        }
        if (!view(x).equals(before)) {
            fail(call + " throws and yet changes something");
        }
    }

    void index(String call, FaceZones x, LongSupplier run) {
        refused(call, IndexOutOfBoundsException.class, x, run);
    }

    void argument(String call, FaceZones x, LongSupplier run) {
        refused(call, IllegalArgumentException.class, x, run);
    }

    void state(String call, FaceZones x, LongSupplier run) {
        refused(call, IllegalStateException.class, x, run);
    }

    /** What can be seen of an object without a change, in few calls. */
    static List<Long> view(FaceZones x) {
        List<Long> seen = new ArrayList<>();
        for (int what = 0; what <= 9; what++) {
            seen.add((long) x.about(what));
        }
        for (int i = 0; i < x.about(0); i++) {
            for (int what = 0; what <= 3; what++) {
                seen.add((long) x.face(i, what));
            }
        }
        seen.add((long) x.errorPosition());
        return seen;
    }

    /** A new object with these faces of half 0, three indices each. */
    static FaceZones crystal(int... indices) {
        FaceZones x = new FaceZones();
        for (int n = 0; n + 2 < indices.length; n += 3) {
            x.addFace(indices[n], indices[n + 1], indices[n + 2], 0);
        }
        return x;
    }

    static FaceZones withText(String text) {
        FaceZones x = new FaceZones();
        tell(x, text);
        return x;
    }

    static void tell(FaceZones x, String text) {
        for (int n = 0; n < text.length(); n++) {
            x.append(text.charAt(n));
        }
    }

    static FaceZones loaded(String text) {
        FaceZones x = withText(text);
        x.load();
        return x;
    }

    private void fail(String what) {
        wrong++;
        if (wrong <= 40) {
            System.out.println(name + ": " + what);
        }
    }

    /** Ends the program with exit code 1 if something was wrong. */
    void end() {
        System.out.println(name + ": " + done + " checks, " + wrong + " wrong");
        if (wrong != 0 || done == 0) {
            System.exit(1);
        }
    }
}
