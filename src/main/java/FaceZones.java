/** Faces of a crystal by their indices, the zones in which they lie, and what follows from both. */
public final class FaceZones {
    /** There is no such result. */
    public static final int NONE = -99999;

    private static final int MOST_FACES = 16;
    private static final int MOST_ZONES = 120;
    private static final int MOST_REMEMBERED = 14;
    private static final int MOST_CHARACTERS = 100;
    private static final int MOST_IN_FORM = 48;
    private static final int SLOTS = 2;
    private static final int HIGHEST_INDEX = 9;
    private static final int HIGHEST_TWIN_INDEX = 3;
    private static final int HIGHEST_SYSTEM = 4;
    private static final int HIGHEST_AXIS_NUMBER = 99;
    private static final int FIRST_LEAST = 2;
    private static final int HIGHEST_LEAST = 6;
    private static final int HIGHEST_CODE = 255;
    private static final int HIGHEST_ROUNDS = 3;
    private static final int MOST_COMMANDS = 3;
    private static final int MOST_SIMULATED = 99;
    private static final int GROUP = 100000;

    private static final int CAN_BE_ADDED = 0;
    private static final int ALL_ZERO = 1;
    private static final int ALREADY_THERE = 2;
    private static final int FULL = 3;

    private final CrystalText text = new CrystalText();
    private final Crystal present = new Crystal();
    private final Crystal trial = new Crystal();
    private final History history = new History();
    private final Crystal[] saved = new Crystal[SLOTS];
    private final boolean[] isSaved = new boolean[SLOTS];
    private final ZoneList presentZones = new ZoneList();
    private final ZoneList trialZones = new ZoneList();
    private final Form form = new Form();
    private final Growth growth = new Growth();
    private final Triple scratch = new Triple();
    private boolean isListed = false;

    public FaceZones() {
        for (int slot = 0; slot < SLOTS; slot++) {
            saved[slot] = new Crystal();
        }
    }

    // ---- text

    public int append(int c) throws IllegalArgumentException, IllegalStateException {
        requireRange(c, 0, HIGHEST_CODE);
        if (text.length >= MOST_CHARACTERS) {
            throw new IllegalStateException("the text is full");
        }
        text.put(c);
        return text.length;
    }

    public int clearText() {
        int before = text.length;
        text.length = 0;
        return before;
    }

    public int errorPosition() {
        return text.readInto(trial);
    }

    public int load() throws IllegalStateException {
        if (text.readInto(trial) != NONE) {
            throw new IllegalStateException("the text is not a crystal");
        }
        replacePresent(trial);
        for (int slot = 0; slot < SLOTS; slot++) {
            isSaved[slot] = false;
        }
        return present.count;
    }

    // ---- what there is

    public int about(int what) throws IllegalArgumentException {
        switch (what) {
            case 0: return present.count;
            case 1: return present.countHalf(1);
            case 2: return present.system;
            case 3: return present.least;
            case 4: return zonesNow().count;
            case 5: return zonesNow().countDirections();
            case 6: return zonesNow().longest();
            case 7: return present.p;
            case 8: return present.q;
            case 9: return present.r;
            default: throw new IllegalArgumentException("what is not 0 to 9");
        }
    }

    public int face(int i, int what) throws IndexOutOfBoundsException, IllegalArgumentException {
        requireFace(i);
        switch (what) {
            case 0: return present.h[i];
            case 1: return present.k[i];
            case 2: return present.l[i];
            case 3: return present.half[i];
            case 4: return (int) zonesNow().direction[i].a;
            case 5: return (int) zonesNow().direction[i].b;
            case 6: return (int) zonesNow().direction[i].c;
            case 7: return zonesNow().countThrough(i);
            case 8: return countForm(i);
            default: throw new IllegalArgumentException("what is not 0 to 8");
        }
    }

    public int zone(int z, int what) throws IndexOutOfBoundsException, IllegalArgumentException {
        ZoneList zones = zonesNow();
        requireZone(z, zones);
        switch (what) {
            case 0: return (int) zones.axis[z].a;
            case 1: return (int) zones.axis[z].b;
            case 2: return (int) zones.axis[z].c;
            case 3: return Integer.bitCount(zones.members[z]);
            case 4: return zones.members[z];
            default: throw new IllegalArgumentException("what is not 0 to 4");
        }
    }

    public int zoneOf(int i, int j) throws IndexOutOfBoundsException {
        requireFace(i);
        requireFace(j);
        return zonesNow().numberOf(i, j);
    }

    public int inZone(int u, int v, int w) throws IllegalArgumentException {
        requireRange(u, -HIGHEST_AXIS_NUMBER, HIGHEST_AXIS_NUMBER);
        requireRange(v, -HIGHEST_AXIS_NUMBER, HIGHEST_AXIS_NUMBER);
        requireRange(w, -HIGHEST_AXIS_NUMBER, HIGHEST_AXIS_NUMBER);
        scratch.put(u, v, w);
        if (scratch.isZero()) {
            return NONE;
        }
        return Integer.bitCount(zonesNow().membersOf(scratch));
    }

    public long cross(int z, int y, int what) throws IndexOutOfBoundsException, IllegalArgumentException {
        ZoneList zones = zonesNow();
        requireZone(z, zones);
        requireZone(y, zones);
        if (z == y) {
            throw new IllegalArgumentException("z is y");
        }
        scratch.putCross(zones.axis[z], zones.axis[y]);
        scratch.normalize();
        switch (what) {
            case 0: return scratch.a;
            case 1: return scratch.b;
            case 2: return scratch.c;
            case 3: return zones.firstParallelTo(scratch);
            default: throw new IllegalArgumentException("what is not 0 to 3");
        }
    }

    public int angle(int i, int j) throws IndexOutOfBoundsException {
        requireFace(i);
        requireFace(j);
        Triple one = zonesNow().direction[i];
        Triple other = zonesNow().direction[j];
        long d = one.dot(other);
        long squares = one.dot(one) * other.dot(other);
        if (squares <= 0) {
            return 0;
        }
        int size = (int) (10000 * d * d / squares);
        return d < 0 ? -size : size;
    }

    public boolean sameForm(int i, int j) throws IndexOutOfBoundsException {
        requireFace(i);
        requireFace(j);
        return present.areOfOneForm(i, j);
    }

    // ---- actions

    public int addFace(int h, int k, int l, int half) throws IllegalArgumentException, IllegalStateException {
        requireFaceArguments(h, k, l, half);
        int refusal = present.refusalOf(h, k, l, half);
        if (refusal == ALL_ZERO) {
            throw new IllegalArgumentException("all indices are 0");
        }
        if (refusal != CAN_BE_ADDED) {
            throw new IllegalStateException("there is such a face, or there are 16");
        }
        remember();
        present.insert(h, k, l, half);
        return present.count - 1;
    }

    public int addForm(int i) throws IndexOutOfBoundsException, IllegalStateException {
        requireFace(i);
        int missing = countMissing(present, i);
        if (present.count + missing > MOST_FACES) {
            throw new IllegalStateException("there would be more than 16 faces");
        }
        remember();
        insertForm(present, i);
        return missing;
    }

    public int twin(int i) throws IndexOutOfBoundsException, IllegalStateException {
        requireFace(i);
        if (present.refusalOfTwin(i) != CAN_BE_ADDED) {
            throw new IllegalStateException("there is such a face, or there are 16");
        }
        remember();
        present.insertTwin(i);
        return present.count - 1;
    }

    public int remove(int i) throws IndexOutOfBoundsException {
        requireFace(i);
        remember();
        present.dropAt(i);
        return present.count;
    }

    public int setSystem(int system) throws IllegalArgumentException {
        requireRange(system, 0, HIGHEST_SYSTEM);
        remember();
        int before = present.system;
        present.system = system;
        return before;
    }

    public int setLeast(int m) throws IllegalArgumentException {
        requireRange(m, FIRST_LEAST, HIGHEST_LEAST);
        remember();
        present.least = m;
        return zonesNow().count;
    }

    public int setTwin(int p, int q, int r) throws IllegalArgumentException {
        if (!isTwinPlane(p, q, r)) {
            throw new IllegalArgumentException("no such twin plane");
        }
        remember();
        present.aimTwin(p, q, r);
        return zonesNow().count;
    }

    public int undo() throws IllegalStateException {
        if (history.count == 0) {
            throw new IllegalStateException("no state is remembered");
        }
        history.popInto(present);
        isListed = false;
        return history.count;
    }

    // ---- what would be

    public int whyNot(int h, int k, int l, int half) throws IllegalArgumentException {
        requireFaceArguments(h, k, l, half);
        return present.refusalOf(h, k, l, half);
    }

    public int bestTwin() {
        trial.copyFrom(present);
        int best = 0;
        int most = -1;
        // The number of a twin plane grows in this order, so the first of several best ones is the smallest.
        for (int p = -1; p <= 1; p++) {
            for (int q = -1; q <= 1; q++) {
                for (int r = -1; r <= 1; r++) {
                    scratch.put(p, q, r);
                    if (!scratch.isNormalized()) {
                        continue;
                    }
                    trial.aimTwin(p, q, r);
                    trialZones.gather(trial);
                    if (trialZones.longest() > most) {
                        most = trialZones.longest();
                        best = 100 * (p + 1) + 10 * (q + 1) + (r + 1);
                    }
                }
            }
        }
        return best;
    }

    public int keyFace() {
        int key = NONE;
        int fewest = MOST_ZONES + 1;
        for (int i = 0; i < present.count; i++) {
            trial.copyFrom(present);
            trial.dropAt(i);
            trialZones.gather(trial);
            if (trialZones.count < fewest) {
                fewest = trialZones.count;
                key = i;
            }
        }
        return key;
    }

    public int grown(int rounds) throws IllegalArgumentException {
        requireRange(rounds, 0, HIGHEST_ROUNDS);
        growth.beginWith(zonesNow());
        for (int round = 0; round < rounds; round++) {
            growth.grow();
        }
        return growth.size();
    }

    // ---- scripts, simulations

    public int runScript(int n, long script) throws IllegalArgumentException {
        requireRange(n, 1, MOST_COMMANDS);
        long unit = 1;
        for (int command = 0; command < n; command++) {
            unit *= GROUP;
        }
        if (script < 0 || script >= unit) {
            throw new IllegalArgumentException("script is out of range");
        }
        trial.copyFrom(present);
        long rest = script;
        for (int command = 0; command < n; command++) {
            // Comes down to 1 at the last command and is never less.
            unit /= GROUP;
            if (unit <= 0 || !succeeds((int) (rest / unit))) {
                return command;
            }
            rest %= unit;
        }
        return NONE;
    }

    public int simulate(long seed, int m) throws IllegalArgumentException {
        requireRange(m, 1, MOST_SIMULATED);
        trial.copyFrom(present);
        long x = seed;
        for (int round = 0; round < m; round++) {
            x = x * 6364136223846793005L + 1442695040888963407L;
            simulateRound((int) (x >>> 33));
        }
        trialZones.gather(trial);
        return 1000 * trial.count + trialZones.count;
    }

    // ---- save slots

    public int save(int slot) throws IndexOutOfBoundsException {
        requireSlot(slot);
        saved[slot].copyFrom(present);
        isSaved[slot] = true;
        return present.count;
    }

    public int restore(int slot) throws IndexOutOfBoundsException, IllegalStateException {
        requireSlot(slot);
        if (!isSaved[slot]) {
            throw new IllegalStateException("nothing has been saved in this slot");
        }
        replacePresent(saved[slot]);
        return present.count;
    }

    // ---- what the calls above share

    private static boolean isWithin(int number, int lowest, int highest) {
        return number >= lowest && number <= highest;
    }

    private static void requireRange(int number, int lowest, int highest) {
        if (!isWithin(number, lowest, highest)) {
            throw new IllegalArgumentException("an argument is out of range");
        }
    }

    private static void requireFaceArguments(int h, int k, int l, int half) {
        requireRange(h, -HIGHEST_INDEX, HIGHEST_INDEX);
        requireRange(k, -HIGHEST_INDEX, HIGHEST_INDEX);
        requireRange(l, -HIGHEST_INDEX, HIGHEST_INDEX);
        requireRange(half, 0, 1);
    }

    private void requireFace(int i) {
        if (!present.hasFace(i)) {
            throw new IndexOutOfBoundsException("no such face");
        }
    }

    private static void requireZone(int z, ZoneList zones) {
        if (z < 0 || z >= zones.count) {
            throw new IndexOutOfBoundsException("no such listed zone");
        }
    }

    private static void requireSlot(int slot) {
        if (slot < 0 || slot >= SLOTS) {
            throw new IndexOutOfBoundsException("no such save slot");
        }
    }

    private static boolean isTwinPlane(int p, int q, int r) {
        boolean allZero = p == 0 && q == 0 && r == 0;
        return !allZero && isWithin(p, -HIGHEST_TWIN_INDEX, HIGHEST_TWIN_INDEX)
            && isWithin(q, -HIGHEST_TWIN_INDEX, HIGHEST_TWIN_INDEX)
            && isWithin(r, -HIGHEST_TWIN_INDEX, HIGHEST_TWIN_INDEX);
    }

    /** Called before each action changes the state. */
    private void remember() {
        history.push(present);
        isListed = false;
    }

    private void replacePresent(Crystal by) {
        present.copyFrom(by);
        history.count = 0;
        isListed = false;
    }

    private ZoneList zonesNow() {
        if (!isListed) {
            presentZones.gather(present);
            presentZones.sort();
            isListed = true;
        }
        return presentZones;
    }

    private int countForm(int i) {
        form.make(present, i);
        return form.count;
    }

    private int countMissing(Crystal crystal, int i) {
        form.make(crystal, i);
        int missing = 0;
        for (int n = 0; n < form.count; n++) {
            if (crystal.find(form.h[n], form.k[n], form.l[n], crystal.half[i]) == NONE) {
                missing++;
            }
        }
        return missing;
    }

    private void insertForm(Crystal crystal, int i) {
        form.make(crystal, i);
        int half = crystal.half[i];
        for (int n = 0; n < form.count; n++) {
            if (crystal.refusalOf(form.h[n], form.k[n], form.l[n], half) == CAN_BE_ADDED) {
                crystal.insert(form.h[n], form.k[n], form.l[n], half);
            }
        }
    }

    private void simulateRound(int r) {
        if (trial.count == MOST_FACES) {
            trial.dropAt(r / 8192 % 16);
        }
        int h = r % 7 - 3;
        int k = r / 8 % 7 - 3;
        int l = r / 64 % 7 - 3;
        int half = r / 512 % 2;
        if (trial.refusalOf(h, k, l, half) == CAN_BE_ADDED) {
            trial.insert(h, k, l, half);
        }
    }

    /** Runs one group of a script on the trial crystal. */
    private boolean succeeds(int group) {
        int second = group / 1000 % 10;
        int lastThree = group % 1000;
        // A digit that is not 0 where a 0 is written makes this number greater than any face or system.
        int lastFour = group % 10000;
        switch (group / 10000) {
            case 1: return addByScript(second, lastThree);
            case 2: return removeByScript(lastFour);
            case 3: return setSystemByScript(lastFour);
            case 4: return addFormByScript(lastFour);
            case 5: return second == 0 && setTwinByScript(lastThree);
            case 6: return hasInZone(second, lastThree);
            case 7: return second == 0 && hasZones(lastThree);
            case 8: return isSameForm(lastFour / 100, lastFour % 100);
            case 9: return twinByScript(lastFour);
            default: return false;
        }
    }

    private static int signed(int digit) {
        return digit <= 4 ? digit : digit - 10;
    }

    /** Puts the three signed numbers that a script's three digits tell into the scratch triple. */
    private void putSigned(int digits) {
        scratch.put(signed(digits / 100 % 10), signed(digits / 10 % 10), signed(digits % 10));
    }

    private boolean addByScript(int half, int digits) {
        putSigned(digits);
        int h = (int) scratch.a;
        int k = (int) scratch.b;
        int l = (int) scratch.c;
        if (half > 1 || trial.refusalOf(h, k, l, half) != CAN_BE_ADDED) {
            return false;
        }
        trial.insert(h, k, l, half);
        return true;
    }

    private boolean removeByScript(int i) {
        if (!trial.hasFace(i)) {
            return false;
        }
        trial.dropAt(i);
        return true;
    }

    private boolean setSystemByScript(int system) {
        if (system > HIGHEST_SYSTEM) {
            return false;
        }
        trial.system = system;
        return true;
    }

    private boolean addFormByScript(int i) {
        if (!trial.hasFace(i) || trial.count + countMissing(trial, i) > MOST_FACES) {
            return false;
        }
        insertForm(trial, i);
        return true;
    }

    private boolean setTwinByScript(int digits) {
        putSigned(digits);
        int p = (int) scratch.a;
        int q = (int) scratch.b;
        int r = (int) scratch.c;
        if (!isTwinPlane(p, q, r)) {
            return false;
        }
        trial.aimTwin(p, q, r);
        return true;
    }

    private boolean hasInZone(int least, int digits) {
        putSigned(digits);
        if (scratch.isZero()) {
            return false;
        }
        trialZones.aim(trial);
        return Integer.bitCount(trialZones.membersOf(scratch)) >= least;
    }

    private boolean hasZones(int least) {
        trialZones.gather(trial);
        return trialZones.count >= least;
    }

    private boolean isSameForm(int i, int j) {
        return trial.hasFace(i) && trial.hasFace(j) && trial.areOfOneForm(i, j);
    }

    private boolean twinByScript(int i) {
        if (!trial.hasFace(i) || trial.refusalOfTwin(i) != CAN_BE_ADDED) {
            return false;
        }
        trial.insertTwin(i);
        return true;
    }

    private static long commonDivisor(long one, long other) {
        long a = one < 0 ? -one : one;
        long b = other < 0 ? -other : other;
        // Euclid's algorithm ends within 92 steps on longs.
        for (int step = 0; step < 100 && b != 0; step++) {
            long rest = a % b;
            a = b;
            b = rest;
        }
        return a;
    }

    /** Three numbers: indices, a direction or an axis. */
    private static final class Triple {
        long a;
        long b;
        long c;

        void put(long first, long second, long third) {
            a = first;
            b = second;
            c = third;
        }

        void copyFrom(Triple other) {
            put(other.a, other.b, other.c);
        }

        void putCross(Triple one, Triple other) {
            put(one.b * other.c - one.c * other.b, one.c * other.a - one.a * other.c, one.a * other.b - one.b * other.a);
        }

        void shorten() {
            divideBy(commonDivisor(commonDivisor(a, b), c));
        }

        void normalize() {
            long divisor = commonDivisor(commonDivisor(a, b), c);
            divideBy(leadsPositive() ? divisor : -divisor);
        }

        private void divideBy(long divisor) {
            if (divisor != 0) {
                a /= divisor;
                b /= divisor;
                c /= divisor;
            }
        }

        boolean isNormalized() {
            return leadsPositive() && commonDivisor(commonDivisor(a, b), c) == 1;
        }

        private boolean leadsPositive() {
            return a != 0 ? a > 0 : b != 0 ? b > 0 : c > 0;
        }

        boolean isZero() {
            return a == 0 && b == 0 && c == 0;
        }

        long dot(Triple other) {
            return a * other.a + b * other.b + c * other.c;
        }

        long sumOfSizes() {
            return Math.abs(a) + Math.abs(b) + Math.abs(c);
        }

        boolean isSameAs(Triple other) {
            return a == other.a && b == other.b && c == other.c;
        }

        boolean isParallelTo(Triple other) {
            return isSameAs(other) || a == -other.a && b == -other.b && c == -other.c;
        }

        /** Whether these indices are in the form of the others. */
        boolean isEquivalentTo(Triple other, int system) {
            if (system == 0) {
                return isParallelTo(other);
            }
            if (system == 1) {
                boolean sameSides = a == other.a && c == other.c || a == -other.a && c == -other.c;
                return sameSides && (b == other.b || b == -other.b);
            }
            return isEquivalentBySizes(other, system);
        }

        private boolean isEquivalentBySizes(Triple other, int system) {
            long x = Math.abs(a);
            long y = Math.abs(b);
            long z = Math.abs(c);
            long u = Math.abs(other.a);
            long v = Math.abs(other.b);
            long w = Math.abs(other.c);
            if (system == 2) {
                return x == u && y == v && z == w;
            }
            if (system == 3) {
                return z == w && (x == u && y == v || x == v && y == u);
            }
            // The sum, the sum of the squares and the product tell three numbers but for their order.
            return x + y + z == u + v + w && dot(this) == other.dot(other) && x * y * z == u * v * w;
        }
    }

    /** The state: what actions change, and what is remembered and saved. */
    private static final class Crystal {
        final int[] h = new int[MOST_FACES];
        final int[] k = new int[MOST_FACES];
        final int[] l = new int[MOST_FACES];
        final int[] half = new int[MOST_FACES];
        int count = 0;
        int system = 0;
        int least = FIRST_LEAST;
        int p = 1;
        int q = 1;
        int r = 1;
        private final Triple told = new Triple();
        private final Triple compared = new Triple();

        void reset() {
            count = 0;
            system = 0;
            least = FIRST_LEAST;
            p = 1;
            q = 1;
            r = 1;
        }

        void copyFrom(Crystal other) {
            System.arraycopy(other.h, 0, h, 0, MOST_FACES);
            System.arraycopy(other.k, 0, k, 0, MOST_FACES);
            System.arraycopy(other.l, 0, l, 0, MOST_FACES);
            System.arraycopy(other.half, 0, half, 0, MOST_FACES);
            count = other.count;
            system = other.system;
            least = other.least;
            p = other.p;
            q = other.q;
            r = other.r;
        }

        boolean hasFace(int i) {
            return i >= 0 && i < count;
        }

        int countHalf(int which) {
            int found = 0;
            for (int i = 0; i < count; i++) {
                if (half[i] == which) {
                    found++;
                }
            }
            return found;
        }

        /** The number of the face with these shortened indices, or NONE. */
        int find(int first, int second, int third, int side) {
            for (int i = 0; i < count; i++) {
                if (h[i] == first && k[i] == second && l[i] == third && half[i] == side) {
                    return i;
                }
            }
            return NONE;
        }

        int refusalOf(int first, int second, int third, int side) {
            told.put(first, second, third);
            if (told.isZero()) {
                return ALL_ZERO;
            }
            told.shorten();
            if (find((int) told.a, (int) told.b, (int) told.c, side) != NONE) {
                return ALREADY_THERE;
            }
            return count >= MOST_FACES ? FULL : CAN_BE_ADDED;
        }

        int refusalOfTwin(int i) {
            return refusalOf(h[i], k[i], l[i], 1 - half[i]);
        }

        void insert(int first, int second, int third, int side) {
            if (count >= MOST_FACES) {
                return;
            }
            told.put(first, second, third);
            told.shorten();
            h[count] = (int) told.a;
            k[count] = (int) told.b;
            l[count] = (int) told.c;
            half[count] = side;
            count++;
        }

        void insertTwin(int i) {
            insert(h[i], k[i], l[i], 1 - half[i]);
        }

        void dropAt(int i) {
            if (!hasFace(i)) {
                return;
            }
            count--;
            for (int n = i; n < count; n++) {
                h[n] = h[n + 1];
                k[n] = k[n + 1];
                l[n] = l[n + 1];
                half[n] = half[n + 1];
            }
        }

        void aimTwin(int first, int second, int third) {
            told.put(first, second, third);
            told.shorten();
            p = (int) told.a;
            q = (int) told.b;
            r = (int) told.c;
        }

        boolean areOfOneForm(int i, int j) {
            told.put(h[i], k[i], l[i]);
            compared.put(h[j], k[j], l[j]);
            return half[i] == half[j] && told.isEquivalentTo(compared, system);
        }

        void putDirection(int i, Triple into) {
            into.put(h[i], k[i], l[i]);
            if (half[i] == 0) {
                return;
            }
            int t = p * p + q * q + r * r;
            int s = h[i] * p + k[i] * q + l[i] * r;
            into.put(t * h[i] - 2 * s * p, t * k[i] - 2 * s * q, t * l[i] - 2 * s * r);
            into.shorten();
        }
    }

    /** The last remembered states, held in a ring so that the oldest one gives way. */
    private static final class History {
        private final Crystal[] states = new Crystal[MOST_REMEMBERED];
        private int next = 0;
        int count = 0;

        History() {
            for (int n = 0; n < MOST_REMEMBERED; n++) {
                states[n] = new Crystal();
            }
        }

        void push(Crystal state) {
            states[next].copyFrom(state);
            next = next + 1 < MOST_REMEMBERED ? next + 1 : 0;
            count = Math.min(count + 1, MOST_REMEMBERED);
        }

        void popInto(Crystal state) {
            if (count == 0) {
                return;
            }
            next = next > 0 ? next - 1 : MOST_REMEMBERED - 1;
            count--;
            state.copyFrom(states[next]);
        }
    }

    /** The directions of a crystal's faces and its listed zones. */
    private static final class ZoneList {
        final Triple[] direction = new Triple[MOST_FACES];
        final Triple[] axis = new Triple[MOST_ZONES];
        final int[] members = new int[MOST_ZONES];
        // For each face the faces with which it shares a zone that has been looked at.
        private final int[] covered = new int[MOST_FACES];
        int faces = 0;
        int count = 0;

        ZoneList() {
            for (int i = 0; i < MOST_FACES; i++) {
                direction[i] = new Triple();
            }
            for (int z = 0; z < MOST_ZONES; z++) {
                axis[z] = new Triple();
            }
        }

        /** Takes the directions alone. */
        void aim(Crystal crystal) {
            faces = crystal.count;
            for (int i = 0; i < faces; i++) {
                crystal.putDirection(i, direction[i]);
            }
        }

        /** Takes the directions and finds the listed zones, in no order. */
        void gather(Crystal crystal) {
            aim(crystal);
            count = 0;
            for (int i = 0; i < faces; i++) {
                covered[i] = 0;
            }
            for (int i = 0; i < faces; i++) {
                for (int j = i + 1; j < faces; j++) {
                    if ((covered[i] & 1 << j) == 0 && !direction[i].isParallelTo(direction[j])) {
                        take(i, j, crystal.least);
                    }
                }
            }
        }

        private void take(int i, int j, int least) {
            if (count >= MOST_ZONES) {
                return;
            }
            axis[count].putCross(direction[i], direction[j]);
            axis[count].normalize();
            int lying = membersOf(axis[count]);
            for (int n = 0; n < faces; n++) {
                if ((lying & 1 << n) != 0) {
                    covered[n] |= lying;
                }
            }
            if (Integer.bitCount(lying) >= least) {
                members[count] = lying;
                count++;
            }
        }

        int membersOf(Triple line) {
            int lying = 0;
            for (int i = 0; i < faces; i++) {
                if (direction[i].dot(line) == 0) {
                    lying |= 1 << i;
                }
            }
            return lying;
        }

        void sort() {
            for (int n = 1; n < count; n++) {
                Triple line = axis[n];
                int lying = members[n];
                int at = n;
                for (; at > 0 && comesBefore(line, lying, axis[at - 1], members[at - 1]); at--) {
                    axis[at] = axis[at - 1];
                    members[at] = members[at - 1];
                }
                axis[at] = line;
                members[at] = lying;
            }
        }

        private static boolean comesBefore(Triple line, int lying, Triple other, int lyingInOther) {
            int faceDifference = Integer.bitCount(lying) - Integer.bitCount(lyingInOther);
            if (faceDifference != 0) {
                return faceDifference > 0;
            }
            long sumDifference = line.sumOfSizes() - other.sumOfSizes();
            if (sumDifference != 0) {
                return sumDifference < 0;
            }
            if (line.a != other.a) {
                return line.a > other.a;
            }
            return line.b != other.b ? line.b > other.b : line.c > other.c;
        }

        int longest() {
            int most = 0;
            for (int z = 0; z < count; z++) {
                most = Math.max(most, Integer.bitCount(members[z]));
            }
            return most;
        }

        int countThrough(int i) {
            int through = 0;
            for (int z = 0; z < count; z++) {
                if ((members[z] & 1 << i) != 0) {
                    through++;
                }
            }
            return through;
        }

        /** The listed zone that two faces tell, or NONE. */
        int numberOf(int i, int j) {
            if (direction[i].isParallelTo(direction[j])) {
                return NONE;
            }
            // Two faces that are not parallel lie together in no zone but the one that they tell.
            int both = 1 << i | 1 << j;
            for (int z = 0; z < count; z++) {
                if ((members[z] & both) == both) {
                    return z;
                }
            }
            return NONE;
        }

        int firstParallelTo(Triple line) {
            for (int i = 0; i < faces; i++) {
                if (direction[i].isParallelTo(line)) {
                    return i;
                }
            }
            return NONE;
        }

        int countDirections() {
            int found = 0;
            for (int i = 0; i < faces; i++) {
                if (firstParallelTo(direction[i]) == i) {
                    found++;
                }
            }
            return found;
        }
    }

    /** All indices that are equivalent to some, the greatest first. */
    private static final class Form {
        final int[] h = new int[MOST_IN_FORM];
        final int[] k = new int[MOST_IN_FORM];
        final int[] l = new int[MOST_IN_FORM];
        int count = 0;
        // Equivalent indices consist of the same numbers with any signs: at most six.
        private final int[] number = new int[6];
        private int numbers = 0;
        private final Triple begin = new Triple();
        private final Triple candidate = new Triple();

        void make(Crystal crystal, int i) {
            begin.put(crystal.h[i], crystal.k[i], crystal.l[i]);
            count = 0;
            collectNumbers();
            for (int a = 0; a < numbers; a++) {
                for (int b = 0; b < numbers; b++) {
                    for (int c = 0; c < numbers; c++) {
                        candidate.put(number[a], number[b], number[c]);
                        if (candidate.isEquivalentTo(begin, crystal.system)) {
                            takeCandidate();
                        }
                    }
                }
            }
        }

        private void collectNumbers() {
            numbers = 0;
            for (int n = HIGHEST_INDEX; n >= -HIGHEST_INDEX; n--) {
                boolean occurs = n == begin.a || n == -begin.a || n == begin.b || n == -begin.b
                    || n == begin.c || n == -begin.c;
                if (occurs && numbers < 6) {
                    number[numbers] = n;
                    numbers++;
                }
            }
        }

        private void takeCandidate() {
            if (count >= MOST_IN_FORM) {
                return;
            }
            h[count] = (int) candidate.a;
            k[count] = (int) candidate.b;
            l[count] = (int) candidate.c;
            count++;
        }
    }

    /** The set of small directions that grows by zones. */
    private static final class Growth {
        private static final int REACH = 2;
        // The normalized directions with numbers from -2 to 2.
        private static final int MOST = 49;

        private final Triple[] small = new Triple[MOST];
        private final boolean[] isInside = new boolean[MOST];
        private final Triple[] firstZone = new Triple[MOST];
        private final int[] zones = new int[MOST];
        private final Triple line = new Triple();

        Growth() {
            int found = 0;
            for (int a = -REACH; a <= REACH; a++) {
                for (int b = -REACH; b <= REACH; b++) {
                    for (int c = -REACH; c <= REACH; c++) {
                        line.put(a, b, c);
                        if (found < MOST && line.isNormalized()) {
                            small[found] = new Triple();
                            firstZone[found] = new Triple();
                            small[found].copyFrom(line);
                            found++;
                        }
                    }
                }
            }
        }

        void beginWith(ZoneList list) {
            for (int n = 0; n < MOST; n++) {
                isInside[n] = list.firstParallelTo(small[n]) != NONE;
            }
        }

        int size() {
            int inside = 0;
            for (int n = 0; n < MOST; n++) {
                if (isInside[n]) {
                    inside++;
                }
            }
            return inside;
        }

        /** One round. Two different zones have a direction as their cross product just if it lies in both. */
        void grow() {
            for (int n = 0; n < MOST; n++) {
                zones[n] = 0;
            }
            for (int i = 0; i < MOST; i++) {
                for (int j = i + 1; j < MOST; j++) {
                    if (isInside[i] && isInside[j]) {
                        line.putCross(small[i], small[j]);
                        line.normalize();
                        countLine();
                    }
                }
            }
            for (int n = 0; n < MOST; n++) {
                isInside[n] = isInside[n] || zones[n] > 1;
            }
        }

        private void countLine() {
            for (int n = 0; n < MOST; n++) {
                if (isInside[n] || zones[n] > 1 || small[n].dot(line) != 0) {
                    continue;
                }
                if (zones[n] == 0) {
                    firstZone[n].copyFrom(line);
                    zones[n] = 1;
                } else if (!firstZone[n].isSameAs(line)) {
                    zones[n] = 2;
                }
            }
        }
    }

    /** The text buffer and its reading. */
    private static final class CrystalText {
        private static final int MOST_TOLD = 16;

        private final int[] code = new int[MOST_CHARACTERS];
        int length = 0;
        private int at = 0;
        private int told = 0;
        private final int[] index = new int[3];

        void put(int c) {
            if (length < MOST_CHARACTERS) {
                code[length] = c;
                length++;
            }
        }

        /** Makes the crystal that the text tells; the error position, or NONE if there is no error. */
        int readInto(Crystal crystal) {
            crystal.reset();
            at = 0;
            told = 0;
            if (!readHead(crystal)) {
                return at;
            }
            for (int part = 0; part < MOST_CHARACTERS && at < length; part++) {
                if (!readPart(crystal)) {
                    return at;
                }
            }
            return NONE;
        }

        private boolean isAt(char c) {
            return at < length && code[at] == c;
        }

        private boolean isDigitAt(int lowest, int highest) {
            return at < length && code[at] >= '0' + lowest && code[at] <= '0' + highest;
        }

        /** The digit here, which has been tested by isDigitAt. */
        private int takeDigit() {
            int digit = at < length ? code[at] - '0' : 0;
            at++;
            return digit;
        }

        private boolean readHead(Crystal crystal) {
            if (!isAt('X')) {
                return false;
            }
            at++;
            if (!isDigitAt(0, HIGHEST_SYSTEM)) {
                return false;
            }
            crystal.system = takeDigit();
            return true;
        }

        private boolean readPart(Crystal crystal) {
            if (isAt('f') && told < MOST_TOLD) {
                at++;
                told++;
                return readFace(crystal);
            }
            if (isAt('t')) {
                at++;
                return readTwin(crystal);
            }
            return false;
        }

        private boolean readFace(Crystal crystal) {
            if (!isDigitAt(0, 1)) {
                return false;
            }
            int half = takeDigit();
            if (!readIndices(HIGHEST_INDEX)) {
                return false;
            }
            if (crystal.refusalOf(index[0], index[1], index[2], half) == CAN_BE_ADDED) {
                crystal.insert(index[0], index[1], index[2], half);
            }
            return true;
        }

        private boolean readTwin(Crystal crystal) {
            if (!readIndices(HIGHEST_TWIN_INDEX)) {
                return false;
            }
            crystal.aimTwin(index[0], index[1], index[2]);
            return true;
        }

        private boolean readIndices(int highest) {
            for (int n = 0; n < 3; n++) {
                boolean isNegative = isAt('-');
                if (isNegative) {
                    at++;
                }
                boolean zeroForbidden = isNegative || n == 2 && index[0] == 0 && index[1] == 0;
                if (!isDigitAt(zeroForbidden ? 1 : 0, highest)) {
                    return false;
                }
                int digit = takeDigit();
                index[n] = isNegative ? -digit : digit;
            }
            return true;
        }
    }
}
