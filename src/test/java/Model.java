import java.math.BigInteger;
import java.util.ArrayDeque;
import java.util.ArrayList;
import java.util.Arrays;
import java.util.Comparator;
import java.util.Deque;
import java.util.HashSet;
import java.util.LinkedHashSet;
import java.util.List;
import java.util.Set;
import java.util.regex.Matcher;
import java.util.regex.Pattern;

/** The document read once more, slowly and by other ways than the class: RandomRunsTest compares both. */
final class Model {
    static final int NONE = -99999;

    /** h, k, l, half. */
    record Face(int h, int k, int l, int half) {
        static Face told(int h, int k, int l, int half) {
            for (int d = 9; d > 1; d--) {
                if (h % d == 0 && k % d == 0 && l % d == 0) {
                    return new Face(h / d, k / d, l / d, half);
                }
            }
            return new Face(h, k, l, half);
        }
    }

    record Vec(long a, long b, long c) {
        Vec cross(Vec o) {
            return new Vec(b * o.c - c * o.b, c * o.a - a * o.c, a * o.b - b * o.a);
        }

        long dot(Vec o) {
            return a * o.a + b * o.b + c * o.c;
        }

        boolean zero() {
            return a == 0 && b == 0 && c == 0;
        }

        Vec negative() {
            return new Vec(-a, -b, -c);
        }

        Vec primitive() {
            long g = Math.abs(divisor(divisor(a, b), c));
            return new Vec(a / g, b / g, c / g);
        }

        private static long divisor(long m, long n) {
            return n == 0 ? m : divisor(n, m % n);
        }

        Vec normal() {
            Vec v = primitive();
            long first = v.a != 0 ? v.a : v.b != 0 ? v.b : v.c;
            return first < 0 ? v.negative() : v;
        }

        boolean small() {
            return Math.abs(a) <= 2 && Math.abs(b) <= 2 && Math.abs(c) <= 2;
        }
    }

    record Zone(Vec axis, int mask) {
        int size() {
            return Integer.bitCount(mask);
        }

        long sum() {
            return Math.abs(axis.a) + Math.abs(axis.b) + Math.abs(axis.c);
        }
    }

    /** A state that is never changed once it is made known. */
    record State(List<Face> faces, int system, int least, int p, int q, int r) {
        static State empty() {
            return new State(List.of(), 0, 2, 1, 1, 1);
        }

        State with(List<Face> other) {
            return new State(List.copyOf(other), system, least, p, q, r);
        }

        State plus(Face f) {
            List<Face> more = new ArrayList<>(faces);
            more.add(f);
            return with(more);
        }

        State minus(int i) {
            List<Face> fewer = new ArrayList<>(faces);
            fewer.remove(i);
            return with(fewer);
        }

        State withSystem(int s) {
            return new State(faces, s, least, p, q, r);
        }

        State withLeast(int m) {
            return new State(faces, system, m, p, q, r);
        }

        State withTwin(int a, int b, int c) {
            Face f = Face.told(a, b, c, 0);
            return new State(faces, system, least, f.h, f.k, f.l);
        }

        Vec direction(Face f) {
            if (f.half == 0) {
                return new Vec(f.h, f.k, f.l);
            }
            int t = p * p + q * q + r * r;
            int s = f.h * p + f.k * q + f.l * r;
            return new Vec(t * f.h - 2 * s * p, t * f.k - 2 * s * q, t * f.l - 2 * s * r).primitive();
        }

        List<Vec> directions() {
            List<Vec> all = new ArrayList<>();
            for (Face f : faces) {
                all.add(direction(f));
            }
            return all;
        }

        int lyingIn(Vec axis) {
            int mask = 0;
            for (int i = 0; i < faces.size(); i++) {
                if (direction(faces.get(i)).dot(axis) == 0) {
                    mask += 1 << i;
                }
            }
            return mask;
        }

        List<Zone> zones() {
            Set<Vec> axes = new HashSet<>();
            List<Vec> d = directions();
            for (Vec one : d) {
                for (Vec other : d) {
                    Vec c = one.cross(other);
                    if (!c.zero()) {
                        axes.add(c.normal());
                    }
                }
            }
            List<Zone> list = new ArrayList<>();
            for (Vec axis : axes) {
                Zone z = new Zone(axis, lyingIn(axis));
                if (z.size() >= least) {
                    list.add(z);
                }
            }
            list.sort(Comparator.comparing((Zone z) -> -z.size()).thenComparing(Zone::sum)
                .thenComparing(z -> -z.axis.a).thenComparing(z -> -z.axis.b).thenComparing(z -> -z.axis.c));
            return list;
        }

        List<Face> form(Face f) {
            Set<Face> all = new LinkedHashSet<>();
            int[] n = {f.h, f.k, f.l};
            int[][] orders = {{0, 1, 2}, {1, 0, 2}, {0, 2, 1}, {2, 1, 0}, {1, 2, 0}, {2, 0, 1}};
            int[][] turns = {{1, 1, 1}, {-1, -1, -1}, {-1, 1, -1}, {1, -1, 1},
                {1, 1, -1}, {-1, -1, 1}, {-1, 1, 1}, {1, -1, -1}};
            int orderCount = system == 4 ? 6 : system == 3 ? 2 : 1;
            int turnCount = system == 0 ? 2 : system == 1 ? 4 : 8;
            for (int o = 0; o < orderCount; o++) {
                for (int t = 0; t < turnCount; t++) {
                    int[] w = orders[o];
                    int[] g = turns[t];
                    all.add(new Face(n[w[0]] * g[0], n[w[1]] * g[1], n[w[2]] * g[2], f.half));
                }
            }
            List<Face> list = new ArrayList<>(all);
            list.sort(Comparator.comparing(Face::h).thenComparing(Face::k).thenComparing(Face::l).reversed());
            return list;
        }

        int whyNot(int h, int k, int l, int half) {
            if (h == 0 && k == 0 && l == 0) {
                return 1;
            }
            if (faces.contains(Face.told(h, k, l, half))) {
                return 2;
            }
            return faces.size() == 16 ? 3 : 0;
        }
    }

    private String text = "";
    private State now = State.empty();
    private final Deque<State> past = new ArrayDeque<>();
    private final State[] slots = new State[2];

    private static void argument(boolean good) {
        if (!good) {
            throw new IllegalArgumentException();
        }
    }

    private static void state(boolean good) {
        if (!good) {
            throw new IllegalStateException();
        }
    }

    private static void index(boolean good) {
        if (!good) {
            throw new IndexOutOfBoundsException();
        }
    }

    private static boolean in(int n, int low, int high) {
        return low <= n && n <= high;
    }

    private void act(State then) {
        past.addLast(now);
        if (past.size() > 14) {
            past.removeFirst();
        }
        now = then;
    }

    int append(int c) {
        argument(in(c, 0, 255));
        state(text.length() < 100);
        text += (char) c;
        return text.length();
    }

    int clearText() {
        int n = text.length();
        text = "";
        return n;
    }

    private static final String FACE = "f[01](?:-[1-9]|[0-9]){3}";
    private static final String TWIN = "t(?:-[1-3]|[0-3]){3}";

    /** Whether these characters stand at the start of some crystal. */
    private static boolean canBegin(String s) {
        for (String end : new String[] {"", "X0", "0", "0111", "111", "11", "1"}) {
            if (isCrystal(s + end)) {
                return true;
            }
        }
        return false;
    }

    private static boolean isCrystal(String s) {
        if (!s.matches("X[0-4](?:" + FACE + "|" + TWIN + ")*")) {
            return false;
        }
        boolean zeros = s.matches(".*(?:f.|t)000.*");
        return !zeros && s.chars().filter(c -> c == 'f').count() <= 16;
    }

    int errorPosition() {
        for (int n = 1; n <= text.length(); n++) {
            if (!canBegin(text.substring(0, n))) {
                return n - 1;
            }
        }
        return isCrystal(text) ? NONE : text.length();
    }

    int load() {
        state(isCrystal(text));
        State s = State.empty().withSystem(text.charAt(1) - '0');
        Matcher part = Pattern.compile("f([01])((?:-?[0-9]){3})|t((?:-?[0-9]){3})").matcher(text.substring(2));
        while (part.find()) {
            boolean isTwin = part.group(1) == null;
            int[] n = indices(isTwin ? part.group(3) : part.group(2));
            int half = isTwin ? 0 : Integer.parseInt(part.group(1));
            if (isTwin) {
                s = s.withTwin(n[0], n[1], n[2]);
            } else if (s.whyNot(n[0], n[1], n[2], half) == 0) {
                s = s.plus(Face.told(n[0], n[1], n[2], half));
            }
        }
        now = s;
        past.clear();
        Arrays.fill(slots, null);
        return now.faces.size();
    }

    private static int[] indices(String digits) {
        Matcher m = Pattern.compile("-?[0-9]").matcher(digits);
        int[] three = new int[3];
        for (int n = 0; n < 3 && m.find(); n++) {
            three[n] = Integer.parseInt(m.group());
        }
        return three;
    }

    int about(int what) {
        argument(in(what, 0, 9));
        List<Zone> zones = now.zones();
        Set<Vec> lines = new HashSet<>();
        for (Vec d : now.directions()) {
            lines.add(d.normal());
        }
        int halves = 0;
        for (Face f : now.faces) {
            halves += f.half;
        }
        int first = zones.isEmpty() ? 0 : zones.get(0).size();
        return new int[] {now.faces.size(), halves, now.system, now.least, zones.size(), lines.size(), first,
            now.p, now.q, now.r}[what];
    }

    int face(int i, int what) {
        index(in(i, 0, now.faces.size() - 1));
        argument(in(what, 0, 8));
        Face f = now.faces.get(i);
        Vec d = now.direction(f);
        int through = 0;
        for (Zone z : now.zones()) {
            through += z.mask >> i & 1;
        }
        return new int[] {f.h, f.k, f.l, f.half, (int) d.a, (int) d.b, (int) d.c, through,
            now.form(f).size()}[what];
    }

    int zone(int z, int what) {
        List<Zone> zones = now.zones();
        index(in(z, 0, zones.size() - 1));
        argument(in(what, 0, 4));
        Zone one = zones.get(z);
        return new int[] {(int) one.axis.a, (int) one.axis.b, (int) one.axis.c, one.size(), one.mask}[what];
    }

    int zoneOf(int i, int j) {
        index(in(i, 0, now.faces.size() - 1));
        index(in(j, 0, now.faces.size() - 1));
        Vec c = now.directions().get(i).cross(now.directions().get(j));
        if (c.zero()) {
            return NONE;
        }
        List<Zone> zones = now.zones();
        for (int z = 0; z < zones.size(); z++) {
            if (zones.get(z).axis.equals(c.normal())) {
                return z;
            }
        }
        return NONE;
    }

    int inZone(int u, int v, int w) {
        argument(in(u, -99, 99) && in(v, -99, 99) && in(w, -99, 99));
        Vec axis = new Vec(u, v, w);
        return axis.zero() ? NONE : Integer.bitCount(now.lyingIn(axis));
    }

    long cross(int z, int y, int what) {
        List<Zone> zones = now.zones();
        index(in(z, 0, zones.size() - 1) && in(y, 0, zones.size() - 1));
        argument(z != y && in(what, 0, 3));
        Vec c = zones.get(z).axis.cross(zones.get(y).axis).normal();
        long parallel = NONE;
        for (int i = now.faces.size() - 1; i >= 0; i--) {
            if (now.directions().get(i).normal().equals(c)) {
                parallel = i;
            }
        }
        return new long[] {c.a, c.b, c.c, parallel}[what];
    }

    int angle(int i, int j) {
        index(in(i, 0, now.faces.size() - 1) && in(j, 0, now.faces.size() - 1));
        Vec one = now.directions().get(i);
        Vec other = now.directions().get(j);
        BigInteger d = BigInteger.valueOf(one.dot(other));
        BigInteger ab = BigInteger.valueOf(one.dot(one))
            .multiply(BigInteger.valueOf(other.dot(other)));
        int size = d.multiply(d).multiply(BigInteger.valueOf(10000)).divide(ab).intValueExact();
        return d.signum() < 0 ? -size : size;
    }

    boolean sameForm(int i, int j) {
        index(in(i, 0, now.faces.size() - 1) && in(j, 0, now.faces.size() - 1));
        return now.form(now.faces.get(i)).contains(now.faces.get(j));
    }

    int addFace(int h, int k, int l, int half) {
        argument(in(h, -9, 9) && in(k, -9, 9) && in(l, -9, 9) && in(half, 0, 1));
        int why = now.whyNot(h, k, l, half);
        argument(why != 1);
        state(why == 0);
        act(now.plus(Face.told(h, k, l, half)));
        return now.faces.size() - 1;
    }

    int addForm(int i) {
        index(in(i, 0, now.faces.size() - 1));
        State then = now;
        for (Face f : now.form(now.faces.get(i))) {
            if (!then.faces.contains(f)) {
                then = then.plus(f);
            }
        }
        state(then.faces.size() <= 16);
        int more = then.faces.size() - now.faces.size();
        act(then);
        return more;
    }

    int twin(int i) {
        index(in(i, 0, now.faces.size() - 1));
        Face f = now.faces.get(i);
        state(now.whyNot(f.h, f.k, f.l, 1 - f.half) == 0);
        act(now.plus(new Face(f.h, f.k, f.l, 1 - f.half)));
        return now.faces.size() - 1;
    }

    int remove(int i) {
        index(in(i, 0, now.faces.size() - 1));
        act(now.minus(i));
        return now.faces.size();
    }

    int setSystem(int system) {
        argument(in(system, 0, 4));
        int before = now.system;
        act(now.withSystem(system));
        return before;
    }

    int setLeast(int m) {
        argument(in(m, 2, 6));
        act(now.withLeast(m));
        return now.zones().size();
    }

    int setTwin(int p, int q, int r) {
        argument(in(p, -3, 3) && in(q, -3, 3) && in(r, -3, 3) && (p != 0 || q != 0 || r != 0));
        act(now.withTwin(p, q, r));
        return now.zones().size();
    }

    int undo() {
        state(!past.isEmpty());
        now = past.removeLast();
        return past.size();
    }

    int whyNot(int h, int k, int l, int half) {
        argument(in(h, -9, 9) && in(k, -9, 9) && in(l, -9, 9) && in(half, 0, 1));
        return now.whyNot(h, k, l, half);
    }

    int bestTwin() {
        int best = 0;
        int most = -1;
        for (int number = 0; number <= 222; number++) {
            int p = number / 100 - 1;
            int q = number / 10 % 10 - 1;
            int r = number % 10 - 1;
            Vec plane = new Vec(p, q, r);
            if (q > 1 || r > 1 || plane.zero() || !plane.normal().equals(plane)) {
                continue;
            }
            List<Zone> zones = now.withTwin(p, q, r).zones();
            int first = zones.isEmpty() ? 0 : zones.get(0).size();
            if (first > most) {
                most = first;
                best = number;
            }
        }
        return best;
    }

    int keyFace() {
        int key = NONE;
        int fewest = Integer.MAX_VALUE;
        for (int i = 0; i < now.faces.size(); i++) {
            int zones = now.minus(i).zones().size();
            if (zones < fewest) {
                fewest = zones;
                key = i;
            }
        }
        return key;
    }

    int grown(int rounds) {
        argument(in(rounds, 0, 3));
        Set<Vec> set = new LinkedHashSet<>();
        for (Vec d : now.directions()) {
            if (d.normal().small()) {
                set.add(d.normal());
            }
        }
        for (int round = 0; round < rounds; round++) {
            List<Vec> zones = new ArrayList<>(crosses(new ArrayList<>(set)));
            for (Vec c : crosses(zones)) {
                if (c.small()) {
                    set.add(c);
                }
            }
        }
        return set.size();
    }

    private static Set<Vec> crosses(List<Vec> of) {
        Set<Vec> all = new HashSet<>();
        for (int i = 0; i < of.size(); i++) {
            for (int j = i + 1; j < of.size(); j++) {
                all.add(of.get(i).cross(of.get(j)).normal());
            }
        }
        return all;
    }

    int runScript(int n, long script) {
        argument(in(n, 1, 3) && script >= 0 && Long.toString(script).length() <= 5 * n);
        String digits = "0".repeat(5 * n - Long.toString(script).length()) + script;
        Model copy = new Model();
        copy.now = now;
        for (int c = 0; c < n; c++) {
            if (!copy.command(digits.substring(5 * c, 5 * c + 5))) {
                return c;
            }
        }
        return NONE;
    }

    private static int signed(char c) {
        return "0123456789".indexOf(c) < 5 ? c - '0' : c - '0' - 10;
    }

    private boolean command(String d) {
        int ii = Integer.parseInt(d.substring(3));
        int a = signed(d.charAt(2));
        int b = signed(d.charAt(3));
        int c = signed(d.charAt(4));
        try {
            if (d.startsWith("1")) {
                addFace(a, b, c, d.charAt(1) - '0');
            } else if (d.startsWith("200")) {
                remove(ii);
            } else if (d.startsWith("3000")) {
                setSystem(ii);
            } else if (d.startsWith("400")) {
                addForm(ii);
            } else if (d.startsWith("50")) {
                setTwin(a, b, c);
            } else if (d.startsWith("6")) {
                return inZone(a, b, c) != NONE && inZone(a, b, c) >= d.charAt(1) - '0';
            } else if (d.startsWith("70")) {
                return now.zones().size() >= Integer.parseInt(d.substring(2));
            } else if (d.startsWith("8")) {
                return sameForm(Integer.parseInt(d.substring(1, 3)), ii);
            } else if (d.startsWith("900")) {
                twin(ii);
            } else {
                return false;
            }
        } catch (IllegalArgumentException | IllegalStateException | IndexOutOfBoundsException e) {
            return false;
        }
        return true;
    }

    int simulate(long seed, int m) {
        argument(in(m, 1, 99));
        State s = now;
        long x = seed;
        for (int round = 0; round < m; round++) {
            x = x * 6364136223846793005L + 1442695040888963407L;
            int r = (int) (x >>> 33);
            if (s.faces.size() == 16) {
                s = s.minus(r / 8192 % 16);
            }
            int h = r % 7 - 3;
            int k = r / 8 % 7 - 3;
            int l = r / 64 % 7 - 3;
            int half = r / 512 % 2;
            if (s.whyNot(h, k, l, half) == 0) {
                s = s.plus(Face.told(h, k, l, half));
            }
        }
        return 1000 * s.faces.size() + s.zones().size();
    }

    int save(int slot) {
        index(in(slot, 0, 1));
        slots[slot] = now;
        return now.faces.size();
    }

    int restore(int slot) {
        index(in(slot, 0, 1));
        state(slots[slot] != null);
        now = slots[slot];
        past.clear();
        return now.faces.size();
    }
}
