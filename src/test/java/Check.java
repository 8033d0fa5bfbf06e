import java.util.ArrayList;
import java.util.List;
import java.util.function.LongSupplier;
import java.util.function.Supplier;
import java.util.function.ToLongFunction;

/** Counts what is not as due, and tells it. */
final class Check {
    private static final int MOST_UNDONE = 16;

    private final String name;
    private int done = 0;
    private int wrong = 0;

    Check(String name) {
        this.name = name;
    }

    void due(String call, long got, long want) {
        done++;
        if (got != want) {
            fail(call + " answered " + got + ", due is " + want);
        }
    }

    void isTrue(String claim, boolean holds) {
        done++;
        if (!holds) {
            fail("does not hold: " + claim);
        }
    }

    /** The call throws exactly this exception. */
    void refused(String call, Class<? extends RuntimeException> want, LongSupplier run) {
        done++;
        String got = "nothing";
        try {
            run.getAsLong();
        } catch (RuntimeException e) {
            got = e.getClass().getName();
        }
        if (!got.equals(want.getName())) {
            fail(call + " throws " + got + ", due is " + want.getName());
        }
    }

    void index(String call, LongSupplier run) {
        refused(call, IndexOutOfBoundsException.class, run);
    }

    void argument(String call, LongSupplier run) {
        refused(call, IllegalArgumentException.class, run);
    }

    void state(String call, LongSupplier run) {
        refused(call, IllegalStateException.class, run);
    }

    /** The call throws exactly this exception, and everything about the object is as without the call. */
    void refused(String call, Class<? extends RuntimeException> want, Supplier<FaceZones> make,
            ToLongFunction<FaceZones> run) {
        FaceZones x = make.get();
        refused(call, want, () -> run.applyAsLong(x));
        keeps(call, make, run);
    }

    void index(String call, Supplier<FaceZones> make, ToLongFunction<FaceZones> run) {
        refused(call, IndexOutOfBoundsException.class, make, run);
    }

    void argument(String call, Supplier<FaceZones> make, ToLongFunction<FaceZones> run) {
        refused(call, IllegalArgumentException.class, make, run);
    }

    void state(String call, Supplier<FaceZones> make, ToLongFunction<FaceZones> run) {
        refused(call, IllegalStateException.class, make, run);
    }

    /** After the call, everything about the object is as without it. */
    void keeps(String call, Supplier<FaceZones> make, ToLongFunction<FaceZones> run) {
        done++;
        List<Long> untouched = portrait(make);
        List<Long> touched = portrait(() -> {
            FaceZones x = make.get();
            answer(() -> run.applyAsLong(x));
            return x;
        });
        if (!touched.equals(untouched)) {
            fail(call + " changes something");
        }
    }

    /** What the call answers; for each kind of exception a number that no call answers. */
    private static long answer(LongSupplier run) {
        try {
            return run.getAsLong();
        } catch (IndexOutOfBoundsException e) {
            return Long.MIN_VALUE;
        } catch (IllegalArgumentException e) {
            return Long.MIN_VALUE + 1;
        } catch (IllegalStateException e) {
            return Long.MIN_VALUE + 2;
        }
    }

    /**
     * All that can be seen of an object: what is there, what each undo and each slot bring back, and the text. Each
     * look takes an object of its own, because an object answers for 512 calls alone.
     */
    static List<Long> portrait(Supplier<FaceZones> make) {
        List<Long> seen = new ArrayList<>(view(make.get()));
        for (int undone = 1; undone <= MOST_UNDONE; undone++) {
            FaceZones x = make.get();
            long left = 0;
            for (int n = 0; n < undone; n++) {
                left = answer(x::undo);
            }
            seen.add(left);
            seen.addAll(view(x));
        }
        for (int slot = 0; slot < 2; slot++) {
            FaceZones x = make.get();
            int from = slot;
            seen.add(answer(() -> x.restore(from)));
            seen.addAll(view(x));
        }
        seen.addAll(viewOfText(make));
        return seen;
    }

    private static List<Long> viewOfText(Supplier<FaceZones> make) {
        List<Long> seen = new ArrayList<>();
        seen.add((long) make.get().clearText());
        FaceZones x = make.get();
        seen.add((long) x.errorPosition());
        seen.add(answer(() -> x.append('1')));
        seen.add((long) x.errorPosition());
        seen.add((long) x.clearText());
        FaceZones y = make.get();
        seen.add(answer(y::load));
        seen.addAll(view(y));
        seen.add((long) y.clearText());
        return seen;
    }

    /** What there is, in at most 139 calls. */
    static List<Long> view(FaceZones x) {
        List<Long> seen = new ArrayList<>();
        for (int what = 0; what <= 9; what++) {
            seen.add((long) x.about(what));
        }
        for (int i = 0; i < x.about(0); i++) {
            for (int what = 0; what <= 6; what++) {
                seen.add((long) x.face(i, what));
            }
        }
        return seen;
    }

    /** A new object with these faces of half 0, three indices each. */
    static FaceZones crystal(int... indices) {
        FaceZones x = new FaceZones();
        for (int n = 0; n + 2 < indices.length; n += 3) {
            x.addFace(indices[n], indices[n + 1], indices[n + 2], 0);
        }
        return x;
    }

    static FaceZones withText(String text) {
        FaceZones x = new FaceZones();
        tell(x, text);
        return x;
    }

    static void tell(FaceZones x, String text) {
        for (int n = 0; n < text.length(); n++) {
            x.append(text.charAt(n));
        }
    }

    static FaceZones loaded(String text) {
        FaceZones x = withText(text);
        x.load();
        return x;
    }

    private void fail(String what) {
        wrong++;
        if (wrong <= 40) {
            System.out.println(name + ": " + what);
        }
    }

    boolean isGood() {
        return wrong == 0 && done > 0;
    }

    /** Ends the program with exit code 1 if something was wrong. */
    void end() {
        System.out.println(name + ": " + done + " checks, " + wrong + " wrong");
        if (!isGood()) {
            System.exit(1);
        }
    }
}
