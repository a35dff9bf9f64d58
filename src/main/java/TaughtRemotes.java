import java.util.Arrays;

/**
 * Remote controls of a street that teach one another. What each method does is told by the
 * numbered promises of the document; this file follows their order.
 *
 * <p>All rows are made once, in the constructors, and copied into one another: no call makes an
 * object, however often it is made.
 */
public final class TaughtRemotes {
    /** There is no such result. */
    public static final int NONE = -9;

    private static final int LEAST_HOUSES = 2;
    private static final int MOST_HOUSES = 9;
    private static final int FIRST_HOUSES = 4;
    private static final int KEYS = 6;
    private static final int CODE_BITS = 12;
    private static final int GREATEST_CODE = 4095;
    private static final int MOST_RECORDS = 40;
    private static final int MOST_DEVICES = 6;
    private static final int GREATEST_TOLERANCE = 3;
    private static final int GREATEST_NOISE = 3;
    private static final int FIRST_NOISE = 1;
    private static final int GREATEST_REACH = 8;
    private static final int FIRST_REACH = 2;
    private static final int MOST_SIGNS = 120;
    private static final int GREATEST_SIGN = 255;
    private static final int MOST_CODES_TOLD = 12;
    private static final int MOST_REMEMBERED = 14;
    private static final int SAVE_SLOTS = 2;
    private static final int MOST_COMMANDS = 3;
    private static final int COMMAND_DIGITS = 5;
    private static final int COMMAND_GROUPS = 100000;
    private static final int MOST_TIMES = 60;

    private final Street street = new Street();
    // Scripts run and texts are read on this one, so that nothing changes if they fail.
    private final Street spare = new Street();
    private final Memory memory = new Memory();
    private final Slots slots = new Slots();
    private final Text text = new Text();
    private final Reader reader = new Reader();

    public TaughtRemotes() {
    }

    // ---- text

    public int append(int c) throws IllegalArgumentException, IllegalStateException {
        requireArgument(isWithin(c, 0, GREATEST_SIGN));
        requireState(!text.isFull());
        return text.add(c);
    }

    public int clearText() {
        return text.empty();
    }

    public int errorPosition() {
        return reader.read(text, spare);
    }

    public int load() throws IllegalStateException {
        requireState(reader.read(text, spare) == NONE);
        street.copyFrom(spare);
        memory.forgetAll();
        slots.emptyAll();
        return street.records.count();
    }

    // ---- what there is

    public int about(int what) throws IllegalArgumentException {
        requireArgument(isWithin(what, 0, 9));
        switch (what) {
            case 0: return street.houses();
            case 1: return street.devices.count();
            case 2: return street.records.count();
            case 3: return street.noise();
            case 4: return street.reach();
            case 5: return street.records.taught();
            case 6: return street.records.wrong();
            case 7: return street.devices.on();
            case 8: return street.differentRoots();
            default: return street.records.greatestGeneration();
        }
    }

    public int key(int h, int k, int what)
            throws IndexOutOfBoundsException, IllegalArgumentException {
        requireKey(h, k);
        requireArgument(isWithin(what, 0, 5));
        int record = street.recordOf(h, k);
        if (record == NONE) {
            return NONE;
        }
        int root = street.records.rootOf(record);
        switch (what) {
            case 0: return street.records.codeOf(record);
            case 1: return record;
            case 2: return street.records.generationOf(record);
            case 3: return street.records.houseOf(root);
            case 4: return street.records.wrongBitsInChain(record);
            default: return apart(street.records.codeOf(record), street.records.codeOf(root));
        }
    }

    public int record(int i, int what)
            throws IndexOutOfBoundsException, IllegalArgumentException {
        requirePlace(street.records.has(i));
        requireArgument(isWithin(what, 0, 6));
        switch (what) {
            case 0: return street.records.parentOf(i);
            case 1: return street.records.houseOf(i);
            case 2: return street.records.keyOf(i);
            case 3: return street.records.codeOf(i);
            case 4: return street.records.wrongBitOf(i);
            case 5: return street.records.childrenOf(i);
            default: return street.keysFrom(i);
        }
    }

    public int device(int d, int what)
            throws IndexOutOfBoundsException, IllegalArgumentException {
        requirePlace(street.devices.has(d));
        requireArgument(isWithin(what, 0, 4));
        switch (what) {
            case 0: return street.devices.houseOf(d);
            case 1: return street.devices.codeOf(d);
            case 2: return street.devices.toleranceOf(d);
            case 3: return street.devices.isOn(d) ? 1 : 0;
            default: return street.keysAcceptedBy(d);
        }
    }

    public int trace(int h, int k, int i)
            throws IndexOutOfBoundsException, IllegalArgumentException {
        requireKey(h, k);
        requireArgument(i >= 0);
        return street.records.ancestorOf(street.recordOf(h, k), i);
    }

    public int wentWrong(int h, int k) throws IndexOutOfBoundsException {
        requireKey(h, k);
        return street.records.firstWrongInChain(street.recordOf(h, k));
    }

    public int common(int h, int k, int other, int key) throws IndexOutOfBoundsException {
        requireKey(h, k);
        requireKey(other, key);
        return street.records.meetingOf(street.recordOf(h, k), street.recordOf(other, key));
    }

    public int accepted(int h, int k) throws IndexOutOfBoundsException {
        requireKey(h, k);
        return street.acceptingDevices(h, k);
    }

    // ---- actions

    public int enter(int h, int k, int code)
            throws IndexOutOfBoundsException, IllegalArgumentException, IllegalStateException {
        requireKey(h, k);
        requireArgument(isCode(code));
        requireState(street.records.hasRoom());
        memory.remember(street);
        return street.enterCode(h, k, code);
    }

    public int teach(int from, int k, int to, int learn)
            throws IndexOutOfBoundsException, IllegalArgumentException, IllegalStateException {
        requireKey(from, k);
        requireKey(to, learn);
        requireArgument(from != to || k != learn);
        requireState(street.canTeach(from, k));
        memory.remember(street);
        return street.teachKey(from, k, to, learn);
    }

    public int erase(int h, int k) throws IndexOutOfBoundsException {
        requireKey(h, k);
        memory.remember(street);
        return street.eraseKey(h, k);
    }

    public int press(int h, int k) throws IndexOutOfBoundsException, IllegalStateException {
        requireKey(h, k);
        requireState(street.hasCode(h, k));
        memory.remember(street);
        return street.pressKey(h, k);
    }

    public int addDevice(int h, int code, int tolerance)
            throws IndexOutOfBoundsException, IllegalArgumentException, IllegalStateException {
        requirePlace(street.hasHouse(h));
        requireArgument(isCode(code) && isTolerance(tolerance));
        requireState(street.devices.hasRoom());
        memory.remember(street);
        return street.devices.add(h, code, tolerance);
    }

    public int setTolerance(int d, int tolerance)
            throws IndexOutOfBoundsException, IllegalArgumentException {
        requirePlace(street.devices.has(d));
        requireArgument(isTolerance(tolerance));
        memory.remember(street);
        return street.devices.changeTolerance(d, tolerance);
    }

    public int set(int what, int v) throws IllegalArgumentException {
        requireArgument(isSetting(what, v));
        memory.remember(street);
        return street.changeSetting(what, v);
    }

    public int undo() throws IllegalStateException {
        requireState(memory.count() > 0);
        return memory.takeBack(street);
    }

    // ---- what would be

    public int wouldBe(int from, int k, int to) throws IndexOutOfBoundsException {
        requireKey(from, k);
        requirePlace(street.hasHouse(to));
        return street.codeIfTaught(from, k, to);
    }

    public int handed(int from, int k, int to) throws IndexOutOfBoundsException {
        requireKey(from, k);
        requirePlace(street.hasHouse(to));
        return street.codeIfHanded(from, k, to);
    }

    public int bestTeacher(int to, int d) throws IndexOutOfBoundsException {
        requirePlace(street.hasHouse(to));
        requirePlace(street.devices.has(d));
        return street.teacherNearestTo(street.devices.codeOf(d), to);
    }

    public int leastTolerance(int d) throws IndexOutOfBoundsException {
        requirePlace(street.devices.has(d));
        int needed = street.farthestFrom(street.devices.codeOf(d));
        return isTolerance(needed) ? needed : NONE;
    }

    // ---- scripts, simulations

    public int runScript(int n, long script) throws IllegalArgumentException {
        requireArgument(isWithin(n, 1, MOST_COMMANDS));
        requireArgument(script >= 0 && script < powerOfTen(COMMAND_DIGITS * n));
        spare.copyFrom(street);
        for (int i = 0; i < n; i++) {
            if (!Script.succeeds(spare, Script.groupAt(script, n - 1 - i))) {
                return i;
            }
        }
        return NONE;
    }

    public int simulate(int h, int k, long seed, int m)
            throws IndexOutOfBoundsException, IllegalArgumentException {
        requireKey(h, k);
        requireArgument(isWithin(m, 1, MOST_TIMES));
        int code = street.codeOf(h, k);
        if (code == NONE) {
            return NONE;
        }
        return street.simulateWay(h, code, seed, m);
    }

    // ---- save slots

    public int save(int slot) throws IndexOutOfBoundsException {
        requirePlace(slots.has(slot));
        slots.keep(slot, street);
        return street.records.count();
    }

    public int restore(int slot) throws IndexOutOfBoundsException, IllegalStateException {
        requirePlace(slots.has(slot));
        requireState(slots.isFilled(slot));
        slots.giveBack(slot, street);
        memory.forgetAll();
        return street.records.count();
    }

    // ---- what the calls ask for before they change anything

    private void requireKey(int h, int k) {
        requirePlace(street.hasKey(h, k));
    }

    private static void requirePlace(boolean exists) {
        if (!exists) {
            throw new IndexOutOfBoundsException("there is no such place");
        }
    }

    private static void requireArgument(boolean inRange) {
        if (!inRange) {
            throw new IllegalArgumentException("an argument is out of its range");
        }
    }

    private static void requireState(boolean possible) {
        if (!possible) {
            throw new IllegalStateException("the state does not allow this call");
        }
    }

    private static boolean isWithin(int v, int least, int greatest) {
        return v >= least && v <= greatest;
    }

    private static boolean isCode(int v) {
        return isWithin(v, 0, GREATEST_CODE);
    }

    private static boolean isTolerance(int v) {
        return isWithin(v, 0, GREATEST_TOLERANCE);
    }

    private static boolean isSetting(int what, int v) {
        return what == 0 && isWithin(v, 0, GREATEST_NOISE)
                || what == 1 && isWithin(v, 0, GREATEST_REACH);
    }

    private static int apart(int code, int other) {
        return Integer.bitCount(code ^ other);
    }

    private static long powerOfTen(int exponent) {
        long power = 1;
        for (int i = 0; i < exponent; i++) {
            power *= 10;
        }
        return power;
    }

    /** How a code that is taught changes: x goes on, and chooses the bit that is wrong. */
    private static final class Noise {
        static long next(long x) {
            return x * 6364136223846793005L + 1442695040888963407L;
        }

        /** The bit that x, already replaced, makes wrong over this distance; NONE if none. */
        static int wrongBit(long x, int noise, int distance) {
            int r = (int) (x >>> 33);
            return r % 10 < noise * distance ? r / 16 % CODE_BITS : NONE;
        }

        static int changed(int code, int wrongBit) {
            return wrongBit == NONE ? code : code ^ (1 << wrongBit);
        }

        static int learned(int code, long x, int noise, int distance) {
            return changed(code, wrongBit(x, noise, distance));
        }
    }

    /**
     * The records in the order in which they were made. A parent is older than its child, so
     * that each step along a chain goes to a smaller number. Asked about NONE, each number is NONE.
     */
    private static final class Records {
        private final int[] codes = new int[MOST_RECORDS];
        private final int[] houses = new int[MOST_RECORDS];
        private final int[] keys = new int[MOST_RECORDS];
        private final int[] parents = new int[MOST_RECORDS];
        private final int[] wrongBits = new int[MOST_RECORDS];
        private int count;

        int count() {
            return count;
        }

        boolean has(int i) {
            return i >= 0 && i < count && i < MOST_RECORDS;
        }

        boolean hasRoom() {
            return count >= 0 && count < MOST_RECORDS;
        }

        void clear() {
            count = 0;
        }

        void copyFrom(Records other) {
            System.arraycopy(other.codes, 0, codes, 0, MOST_RECORDS);
            System.arraycopy(other.houses, 0, houses, 0, MOST_RECORDS);
            System.arraycopy(other.keys, 0, keys, 0, MOST_RECORDS);
            System.arraycopy(other.parents, 0, parents, 0, MOST_RECORDS);
            System.arraycopy(other.wrongBits, 0, wrongBits, 0, MOST_RECORDS);
            count = other.count;
        }

        /** Returns the number of the new record; NONE if there is no room for it. */
        int add(int code, int house, int key, int parent, int wrongBit) {
            if (!hasRoom()) {
                return NONE;
            }
            int i = count;
            codes[i] = code;
            houses[i] = house;
            keys[i] = key;
            parents[i] = parent;
            wrongBits[i] = wrongBit;
            count++;
            return i;
        }

        int codeOf(int i) {
            return has(i) ? codes[i] : NONE;
        }

        int houseOf(int i) {
            return has(i) ? houses[i] : NONE;
        }

        int keyOf(int i) {
            return has(i) ? keys[i] : NONE;
        }

        int parentOf(int i) {
            return has(i) ? parents[i] : NONE;
        }

        int wrongBitOf(int i) {
            return has(i) ? wrongBits[i] : NONE;
        }

        /** The record at this place, from 0, of the chain; NONE if the chain is shorter. */
        int ancestorOf(int i, int place) {
            // No chain has more places than there are records.
            int most = Math.min(place, MOST_RECORDS);
            int at = i;
            for (int steps = 0; steps < most && at != NONE; steps++) {
                at = parentOf(at);
            }
            return at;
        }

        int generationOf(int i) {
            int generation = 0;
            int at = parentOf(i);
            for (int steps = 0; steps < MOST_RECORDS && at != NONE; steps++) {
                generation++;
                at = parentOf(at);
            }
            return generation;
        }

        int rootOf(int i) {
            return ancestorOf(i, generationOf(i));
        }

        int wrongBitsInChain(int i) {
            int wrong = 0;
            int at = i;
            for (int steps = 0; steps < MOST_RECORDS && at != NONE; steps++) {
                if (wrongBitOf(at) != NONE) {
                    wrong++;
                }
                at = parentOf(at);
            }
            return wrong;
        }

        /** The record with a wrong bit that is nearest to the root; NONE if there is none. */
        int firstWrongInChain(int i) {
            int first = NONE;
            int at = i;
            for (int steps = 0; steps < MOST_RECORDS && at != NONE; steps++) {
                if (wrongBitOf(at) != NONE) {
                    first = at;
                }
                at = parentOf(at);
            }
            return first;
        }

        boolean isInChain(int wanted, int i) {
            int at = i;
            for (int steps = 0; steps < MOST_RECORDS && at != NONE; steps++) {
                if (at == wanted) {
                    return true;
                }
                at = parentOf(at);
            }
            return false;
        }

        /** The greatest number that is in both chains; NONE if there is none. */
        int meetingOf(int i, int other) {
            int at = i;
            // A chain falls, so the first number of it that the other one has is the greatest.
            for (int steps = 0; steps < MOST_RECORDS && at != NONE; steps++) {
                if (isInChain(at, other)) {
                    return at;
                }
                at = parentOf(at);
            }
            return NONE;
        }

        int childrenOf(int parent) {
            int children = 0;
            for (int i = 0; i < count; i++) {
                if (parentOf(i) == parent) {
                    children++;
                }
            }
            return children;
        }

        int taught() {
            return count - childrenOf(NONE);
        }

        int wrong() {
            int wrong = 0;
            for (int i = 0; i < count; i++) {
                if (wrongBitOf(i) != NONE) {
                    wrong++;
                }
            }
            return wrong;
        }

        int greatestGeneration() {
            int greatest = NONE;
            for (int i = 0; i < count; i++) {
                greatest = Math.max(greatest, generationOf(i));
            }
            return greatest;
        }
    }

    /** The devices in the order in which they were added. */
    private static final class Devices {
        private final int[] houses = new int[MOST_DEVICES];
        private final int[] codes = new int[MOST_DEVICES];
        private final int[] tolerances = new int[MOST_DEVICES];
        private int count;
        // Bit d is set for the device d, as the calls tell it.
        private int on;

        int count() {
            return count;
        }

        int on() {
            return on;
        }

        boolean has(int d) {
            return d >= 0 && d < count && d < MOST_DEVICES;
        }

        boolean hasRoom() {
            return count >= 0 && count < MOST_DEVICES;
        }

        void clear() {
            count = 0;
            on = 0;
        }

        void copyFrom(Devices other) {
            System.arraycopy(other.houses, 0, houses, 0, MOST_DEVICES);
            System.arraycopy(other.codes, 0, codes, 0, MOST_DEVICES);
            System.arraycopy(other.tolerances, 0, tolerances, 0, MOST_DEVICES);
            count = other.count;
            on = other.on;
        }

        /** Returns the number of the new device; NONE if there is no room for it. */
        int add(int house, int code, int tolerance) {
            if (!hasRoom()) {
                return NONE;
            }
            int d = count;
            houses[d] = house;
            codes[d] = code;
            tolerances[d] = tolerance;
            count++;
            return d;
        }

        int houseOf(int d) {
            return has(d) ? houses[d] : NONE;
        }

        int codeOf(int d) {
            return has(d) ? codes[d] : NONE;
        }

        int toleranceOf(int d) {
            return has(d) ? tolerances[d] : NONE;
        }

        boolean isOn(int d) {
            return has(d) && (on >> d & 1) == 1;
        }

        /** Tells if the device takes this code, sent from this house; it takes no NONE. */
        boolean accepts(int d, int house, int code, int reach) {
            return has(d) && code != NONE
                    && Math.abs(houses[d] - house) <= reach
                    && Integer.bitCount(codes[d] ^ code) <= tolerances[d];
        }

        /** The devices that take this code, bit d set for the device d. */
        int accepting(int house, int code, int reach) {
            int mask = 0;
            for (int d = 0; d < count; d++) {
                if (accepts(d, house, code, reach)) {
                    mask |= 1 << d;
                }
            }
            return mask;
        }

        int changeTolerance(int d, int tolerance) {
            int before = toleranceOf(d);
            if (has(d)) {
                tolerances[d] = tolerance;
            }
            return before;
        }

        void switchOver(int mask) {
            on ^= mask;
        }
    }

    /** The whole state: everything but the text, the remembered states and the save slots. */
    private static final class Street {
        private final Records records = new Records();
        private final Devices devices = new Devices();
        // The record of each key, house by house; NONE for a key without a code.
        private final int[] recordOfKey = new int[MOST_HOUSES * KEYS];
        private int houses;
        private int noise;
        private int reach;
        private long x;

        Street() {
            clear(FIRST_HOUSES);
        }

        void clear(int newHouses) {
            records.clear();
            devices.clear();
            Arrays.fill(recordOfKey, NONE);
            houses = newHouses;
            noise = FIRST_NOISE;
            reach = FIRST_REACH;
            x = 1;
        }

        void copyFrom(Street other) {
            records.copyFrom(other.records);
            devices.copyFrom(other.devices);
            System.arraycopy(other.recordOfKey, 0, recordOfKey, 0, MOST_HOUSES * KEYS);
            houses = other.houses;
            noise = other.noise;
            reach = other.reach;
            x = other.x;
        }

        int houses() {
            return houses;
        }

        int noise() {
            return noise;
        }

        int reach() {
            return reach;
        }

        boolean hasHouse(int h) {
            return h >= 0 && h < houses && h < MOST_HOUSES;
        }

        boolean hasKey(int h, int k) {
            return h >= 0 && h < houses && h < MOST_HOUSES && k >= 0 && k < KEYS;
        }

        boolean hasCode(int h, int k) {
            return recordOf(h, k) != NONE;
        }

        int recordOf(int h, int k) {
            return hasKey(h, k) ? recordOfKey[h * KEYS + k] : NONE;
        }

        int codeOf(int h, int k) {
            return records.codeOf(recordOf(h, k));
        }

        private void giveRecord(int h, int k, int record) {
            if (hasKey(h, k)) {
                recordOfKey[h * KEYS + k] = record;
            }
        }

        int differentRoots() {
            long roots = 0;
            for (int record : recordOfKey) {
                if (record != NONE) {
                    roots |= 1L << records.rootOf(record);
                }
            }
            return Long.bitCount(roots);
        }

        /** The keys whose codes come from this record or from one that has it in its chain. */
        int keysFrom(int source) {
            int keys = 0;
            for (int record : recordOfKey) {
                if (records.isInChain(source, record)) {
                    keys++;
                }
            }
            return keys;
        }

        /** The keys whose codes the device would accept if the reach went along the street. */
        int keysAcceptedBy(int d) {
            int keys = 0;
            for (int h = 0; h < houses; h++) {
                for (int k = 0; k < KEYS; k++) {
                    if (devices.accepts(d, h, codeOf(h, k), GREATEST_REACH)) {
                        keys++;
                    }
                }
            }
            return keys;
        }

        boolean isAccepted(int h, int k, int d) {
            return devices.accepts(d, h, codeOf(h, k), reach);
        }

        int acceptingDevices(int h, int k) {
            return devices.accepting(h, codeOf(h, k), reach);
        }

        /** Returns the number of the record. */
        int enterCode(int h, int k, int code) {
            int record = records.add(code, h, k, NONE, NONE);
            giveRecord(h, k, record);
            return record;
        }

        boolean canTeach(int from, int k) {
            return hasCode(from, k) && records.hasRoom();
        }

        /** Returns the code that is learned. */
        int teachKey(int from, int k, int to, int learn) {
            x = Noise.next(x);
            int parent = recordOf(from, k);
            int wrongBit = Noise.wrongBit(x, noise, Math.abs(from - to));
            int code = Noise.changed(records.codeOf(parent), wrongBit);
            giveRecord(to, learn, records.add(code, to, learn, parent, wrongBit));
            return code;
        }

        /** Returns the code that the key had. */
        int eraseKey(int h, int k) {
            int before = codeOf(h, k);
            giveRecord(h, k, NONE);
            return before;
        }

        int pressKey(int h, int k) {
            int mask = devices.accepting(h, codeOf(h, k), reach);
            devices.switchOver(mask);
            return mask;
        }

        /** Changes the noise (0) or the reach (1), and returns the previous one. */
        int changeSetting(int what, int v) {
            int before = what == 0 ? noise : reach;
            if (what == 0) {
                noise = v;
            } else {
                reach = v;
            }
            return before;
        }

        int codeIfTaught(int from, int k, int to) {
            if (!hasCode(from, k)) {
                return NONE;
            }
            return Noise.learned(codeOf(from, k), Noise.next(x), noise, Math.abs(from - to));
        }

        int codeIfHanded(int from, int k, int to) {
            int code = codeOf(from, k);
            if (code == NONE) {
                return NONE;
            }
            long then = x;
            int houseSteps = Math.abs(from - to);
            for (int i = 0; i < houseSteps; i++) {
                then = Noise.next(then);
                code = Noise.learned(code, then, noise, 1);
            }
            return code;
        }

        int teacherNearestTo(int wanted, int to) {
            int best = NONE;
            int fewest = CODE_BITS + 1;
            for (int h = 0; h < houses; h++) {
                for (int k = 0; k < KEYS; k++) {
                    int code = codeIfTaught(h, k, to);
                    if (code != NONE && apart(code, wanted) < fewest) {
                        fewest = apart(code, wanted);
                        best = 10 * h + k;
                    }
                }
            }
            return best;
        }

        /** The most bits by which a key's code is apart from this one, which its root has. */
        int farthestFrom(int rootCode) {
            int farthest = 0;
            for (int record : recordOfKey) {
                if (record != NONE && records.codeOf(records.rootOf(record)) == rootCode) {
                    farthest = Math.max(farthest, apart(records.codeOf(record), rootCode));
                }
            }
            return farthest;
        }

        int simulateWay(int h, int code, long seed, int times) {
            long then = seed;
            int result = 0;
            for (int i = 0; i < times; i++) {
                int arriving = code;
                for (int next = h + 1; next < houses; next++) {
                    then = Noise.next(then);
                    arriving = Noise.learned(arriving, then, noise, 1);
                }
                result += (arriving == code ? 1000 : 0) + apart(arriving, code);
            }
            return result;
        }
    }

    /** The states that undo goes back to, in a ring, so that the oldest one gives way. */
    private static final class Memory {
        private final Street[] states = new Street[MOST_REMEMBERED];
        private int oldest;
        private int count;

        Memory() {
            for (int i = 0; i < MOST_REMEMBERED; i++) {
                states[i] = new Street();
            }
        }

        int count() {
            return count;
        }

        private Street stateAt(int place) {
            return states[Math.floorMod(oldest + place, MOST_REMEMBERED)];
        }

        void remember(Street street) {
            Street free = stateAt(count);
            if (free != null) {
                free.copyFrom(street);
            }
            if (count < MOST_REMEMBERED) {
                count++;
            } else {
                oldest = (oldest + 1) % MOST_REMEMBERED;
            }
        }

        /** Makes the street the newest state of all, and returns how many are left. */
        int takeBack(Street street) {
            if (count > 0) {
                count--;
                Street newest = stateAt(count);
                if (newest != null) {
                    street.copyFrom(newest);
                }
            }
            return count;
        }

        void forgetAll() {
            count = 0;
        }
    }

    private static final class Slots {
        private final Street[] states = new Street[SAVE_SLOTS];
        // Bit i is set for the slot i; the states stay, to be used again.
        private int filled;

        Slots() {
            for (int i = 0; i < SAVE_SLOTS; i++) {
                states[i] = new Street();
            }
        }

        boolean has(int slot) {
            return slot >= 0 && slot < SAVE_SLOTS;
        }

        boolean isFilled(int slot) {
            return has(slot) && (filled >> slot & 1) == 1;
        }

        private Street stateAt(int slot) {
            return has(slot) ? states[slot] : null;
        }

        void keep(int slot, Street street) {
            Street kept = stateAt(slot);
            if (kept != null) {
                kept.copyFrom(street);
                filled |= 1 << slot;
            }
        }

        void giveBack(int slot, Street street) {
            Street kept = stateAt(slot);
            if (kept != null) {
                street.copyFrom(kept);
            }
        }

        void emptyAll() {
            filled = 0;
        }
    }

    private static final class Text {
        private final char[] signs = new char[MOST_SIGNS];
        private int length;

        int length() {
            return length;
        }

        boolean isFull() {
            return length >= MOST_SIGNS;
        }

        /** Returns the new length. */
        int add(int c) {
            if (length >= 0 && length < MOST_SIGNS) {
                signs[length] = (char) c;
                length++;
            }
            return length;
        }

        /** Returns the previous length. */
        int empty() {
            int before = length;
            length = 0;
            return before;
        }

        /** The character at this place; NONE, which is no character, behind the end. */
        int signAt(int i) {
            return i >= 0 && i < length && i < MOST_SIGNS ? signs[i] : NONE;
        }
    }

    /**
     * Reads a street from left to right. Where a method stops because a character is not allowed,
     * the place stays on that character, or behind the text if it ends too soon.
     */
    private static final class Reader {
        private int place;

        /** Returns the error position; NONE if the text is a street, which the street is then. */
        int read(Text text, Street street) {
            place = 0;
            boolean allowed = readHead(text, street);
            // A part has two characters at least, so that the parts end before the counter does.
            for (int i = 0; allowed && i < MOST_SIGNS && place < text.length(); i++) {
                allowed = readPart(text, street);
            }
            return allowed ? NONE : place;
        }

        private boolean readHead(Text text, Street street) {
            if (text.signAt(place) != 'R') {
                return false;
            }
            place++;
            int houses = readNumber(text, 1, LEAST_HOUSES, MOST_HOUSES);
            if (houses == NONE) {
                return false;
            }
            street.clear(houses);
            return true;
        }

        private boolean readPart(Text text, Street street) {
            switch (text.signAt(place)) {
                case 'k': return street.records.count() < MOST_CODES_TOLD && readCode(text, street);
                case 'd': return street.devices.hasRoom() && readDevice(text, street);
                case 'n': return readSetting(text, street, 0, GREATEST_NOISE);
                case 's': return readSetting(text, street, 1, GREATEST_REACH);
                default: return false;
            }
        }

        private boolean readCode(Text text, Street street) {
            place++;
            int h = readNumber(text, 1, 0, street.houses() - 1);
            int k = h == NONE ? NONE : readNumber(text, 1, 0, KEYS - 1);
            int code = k == NONE ? NONE : readNumber(text, 4, 0, GREATEST_CODE);
            if (code == NONE) {
                return false;
            }
            street.enterCode(h, k, code);
            return true;
        }

        private boolean readDevice(Text text, Street street) {
            place++;
            int h = readNumber(text, 1, 0, street.houses() - 1);
            int code = h == NONE ? NONE : readNumber(text, 4, 0, GREATEST_CODE);
            int tolerance = code == NONE ? NONE : readNumber(text, 1, 0, GREATEST_TOLERANCE);
            if (tolerance == NONE) {
                return false;
            }
            street.devices.add(h, code, tolerance);
            return true;
        }

        private boolean readSetting(Text text, Street street, int what, int greatest) {
            place++;
            int v = readNumber(text, 1, 0, greatest);
            if (v == NONE) {
                return false;
            }
            street.changeSetting(what, v);
            return true;
        }

        /** Stops at the first digit with which no number from least to greatest begins. */
        private int readNumber(Text text, int digits, int least, int greatest) {
            long number = 0;
            for (int left = digits - 1; left >= 0; left--) {
                int sign = text.signAt(place);
                if (sign < '0' || sign > '9') {
                    return NONE;
                }
                number = 10 * number + (sign - '0');
                long smallestSuch = number * powerOfTen(left);
                long greatestSuch = smallestSuch + powerOfTen(left) - 1;
                if (smallestSuch > greatest || greatestSuch < least) {
                    return NONE;
                }
                place++;
            }
            return (int) number;
        }
    }

    /** The commands of scripts: each is a group of five digits, d1 to d5. */
    private static final class Script {
        /** The group that has this many groups behind it. */
        static int groupAt(long script, int behind) {
            long upToIt = script;
            for (int i = 0; i < behind; i++) {
                upToIt /= COMMAND_GROUPS;
            }
            return (int) (upToIt % COMMAND_GROUPS);
        }

        static boolean succeeds(Street street, int group) {
            int d2 = group / 1000 % 10;
            int d3 = group / 100 % 10;
            int d4 = group / 10 % 10;
            int d5 = group % 10;
            switch (group / 10000) {
                case 1: return teaches(street, d2, d3, d4, d5);
                case 2: return d4 == 0 && d5 == 0 && presses(street, d2, d3);
                case 3: return d4 == 0 && d5 == 0 && erases(street, d2, d3);
                case 4: return d4 == 0 && d5 == 0 && sets(street, d2, d3);
                case 5: return d4 == 0 && d5 == 0 && setsTolerance(street, d2, d3);
                case 6: return d4 == 0 && hasGeneration(street, d2, d3, d5);
                case 7: return d4 == 0 && hasWrongBits(street, d2, d3, d5);
                case 8: return d5 == 0 && street.isAccepted(d2, d3, d4);
                case 9: return d3 == 0 && d4 == 0 && isSwitched(street, d2, d5);
                default: return false;
            }
        }

        private static boolean teaches(Street street, int from, int k, int to, int learn) {
            boolean sameKey = from == to && k == learn;
            if (!street.hasKey(to, learn) || sameKey || !street.canTeach(from, k)) {
                return false;
            }
            street.teachKey(from, k, to, learn);
            return true;
        }

        private static boolean presses(Street street, int h, int k) {
            if (!street.hasCode(h, k)) {
                return false;
            }
            street.pressKey(h, k);
            return true;
        }

        private static boolean erases(Street street, int h, int k) {
            if (!street.hasKey(h, k)) {
                return false;
            }
            street.eraseKey(h, k);
            return true;
        }

        private static boolean sets(Street street, int what, int v) {
            if (!isSetting(what, v)) {
                return false;
            }
            street.changeSetting(what, v);
            return true;
        }

        private static boolean setsTolerance(Street street, int d, int tolerance) {
            if (!street.devices.has(d) || !isTolerance(tolerance)) {
                return false;
            }
            street.devices.changeTolerance(d, tolerance);
            return true;
        }

        private static boolean hasGeneration(Street street, int h, int k, int generation) {
            return street.hasCode(h, k)
                    && street.records.generationOf(street.recordOf(h, k)) == generation;
        }

        private static boolean hasWrongBits(Street street, int h, int k, int most) {
            return street.hasCode(h, k)
                    && street.records.wrongBitsInChain(street.recordOf(h, k)) <= most;
        }

        private static boolean isSwitched(Street street, int d, int wanted) {
            return street.devices.has(d) && wanted == (street.devices.isOn(d) ? 1 : 0);
        }
    }
}
