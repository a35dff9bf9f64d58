import java.math.BigInteger;
import java.util.ArrayDeque;
import java.util.ArrayList;
import java.util.Deque;
import java.util.List;
import java.util.Map;
import java.util.Set;
import java.util.TreeMap;
import java.util.regex.Matcher;
import java.util.regex.Pattern;

/**
 * The document once more, written another way than the program: records that refer to one another,
 * maps and lists that are copied whole, texts that are checked by patterns, x as a big number.
 */
final class Model {
    private static final int NONE = -9;

    private record Rec(int number, int code, int house, int key, Rec parent, Integer wrongBit) {
        List<Rec> chain() {
            List<Rec> chain = new ArrayList<>();
            for (Rec r = this; r != null; r = r.parent) {
                chain.add(r);
            }
            return chain;
        }

        Rec root() {
            return parent == null ? this : parent.root();
        }

        int generation() {
            return parent == null ? 0 : 1 + parent.generation();
        }

        int wrongBits() {
            return (int) chain().stream().filter(r -> r.wrongBit != null).count();
        }
    }

    private record Dev(int house, int code, int tolerance, boolean on) {
        boolean accepts(int h, int other, int reach) {
            return Math.abs(house - h) <= reach && apart(code, other) <= tolerance;
        }
    }

    private static final class State {
        int houses = 4;
        int noise = 1;
        int reach = 2;
        BigInteger x = BigInteger.ONE;
        List<Rec> records = new ArrayList<>();
        List<Dev> devices = new ArrayList<>();
        // By 10 * house + key, so that the smallest number comes first.
        TreeMap<Integer, Rec> keys = new TreeMap<>();

        State copy() {
            State s = new State();
            s.houses = houses;
            s.noise = noise;
            s.reach = reach;
            s.x = x;
            s.records = new ArrayList<>(records);
            s.devices = new ArrayList<>(devices);
            s.keys = new TreeMap<>(keys);
            return s;
        }
    }

    private State s = new State();
    private Deque<State> remembered = new ArrayDeque<>();
    private final State[] slots = new State[2];
    private String text = "";

    private static int apart(int a, int b) {
        return (int) Integer.toBinaryString(a ^ b).chars().filter(c -> c == '1').count();
    }

    private static BigInteger next(BigInteger x) {
        return x.multiply(BigInteger.valueOf(6364136223846793005L))
                .add(BigInteger.valueOf(1442695040888963407L))
                .mod(BigInteger.ONE.shiftLeft(64));
    }

    private static Integer wrongBit(BigInteger x, int noise, int distance) {
        long r = x.shiftRight(33).longValueExact();
        return r % 10 < noise * distance ? (int) (r / 16 % 12) : null;
    }

    private static int learned(int code, BigInteger x, int noise, int distance) {
        Integer bit = wrongBit(x, noise, distance);
        return bit == null ? code : BigInteger.valueOf(code).flipBit(bit).intValue();
    }

    private void house(int h) {
        if (h < 0 || h >= s.houses) {
            throw new IndexOutOfBoundsException();
        }
    }

    private void keyExists(int h, int k) {
        house(h);
        if (k < 0 || k > 5) {
            throw new IndexOutOfBoundsException();
        }
    }

    private void deviceExists(int d) {
        if (d < 0 || d >= s.devices.size()) {
            throw new IndexOutOfBoundsException();
        }
    }

    private static void range(int v, int least, int greatest) {
        if (v < least || v > greatest) {
            throw new IllegalArgumentException();
        }
    }

    private static void state(boolean fine) {
        if (!fine) {
            throw new IllegalStateException();
        }
    }

    private Rec rec(int h, int k) {
        return s.keys.get(10 * h + k);
    }

    private void remember() {
        remembered.addLast(s.copy());
        if (remembered.size() > 14) {
            remembered.removeFirst();
        }
    }

    int append(int c) {
        range(c, 0, 255);
        state(text.length() < 120);
        text += (char) c;
        return text.length();
    }

    int clearText() {
        int length = text.length();
        text = "";
        return length;
    }

    private static final String CODE = "(?:[0-3][0-9]{3}|40[0-8][0-9]|409[0-5])";

    private static boolean begins(String t) {
        for (int houses = 2; houses <= 9; houses++) {
            Matcher m = street(houses).matcher(t);
            boolean fits = m.matches() || m.hitEnd();
            if (fits && t.chars().filter(c -> c == 'k').count() <= 12
                    && t.chars().filter(c -> c == 'd').count() <= 6) {
                return true;
            }
        }
        return false;
    }

    private static Pattern street(int houses) {
        String house = "[0-" + (houses - 1) + "]";
        return Pattern.compile("R" + houses + "(?:k" + house + "[0-5]" + CODE + "|d" + house + CODE
                + "[0-3]|n[0-3]|s[0-8])*");
    }

    int errorPosition() {
        for (int i = 1; i <= text.length(); i++) {
            if (!begins(text.substring(0, i))) {
                return i - 1;
            }
        }
        for (int houses = 2; houses <= 9; houses++) {
            if (street(houses).matcher(text).matches()) {
                return NONE;
            }
        }
        return text.length();
    }

    int load() {
        state(errorPosition() == NONE);
        s = new State();
        s.houses = text.charAt(1) - '0';
        Matcher m = Pattern.compile("([kdns])([0-9]+)").matcher(text.substring(2));
        while (m.find()) {
            String part = m.group(2);
            switch (m.group(1)) {
                case "k" -> entered(part.charAt(0) - '0', part.charAt(1) - '0',
                        Integer.parseInt(part.substring(2)));
                case "d" -> s.devices.add(new Dev(part.charAt(0) - '0',
                        Integer.parseInt(part.substring(1, 5)), part.charAt(5) - '0', false));
                case "n" -> s.noise = Integer.parseInt(part);
                default -> s.reach = Integer.parseInt(part);
            }
        }
        remembered.clear();
        slots[0] = null;
        slots[1] = null;
        return s.records.size();
    }

    int about(int what) {
        range(what, 0, 9);
        return switch (what) {
            case 0 -> s.houses;
            case 1 -> s.devices.size();
            case 2 -> s.records.size();
            case 3 -> s.noise;
            case 4 -> s.reach;
            case 5 -> (int) s.records.stream().filter(r -> r.parent != null).count();
            case 6 -> (int) s.records.stream().filter(r -> r.wrongBit != null).count();
            case 7 -> mask(Dev::on);
            case 8 -> (int) s.keys.values().stream().map(r -> r.root().number).distinct().count();
            default -> s.records.stream().mapToInt(Rec::generation).max().orElse(NONE);
        };
    }

    private int mask(java.util.function.Predicate<Dev> test) {
        int mask = 0;
        for (int d = 0; d < s.devices.size(); d++) {
            mask += test.test(s.devices.get(d)) ? (int) Math.pow(2, d) : 0;
        }
        return mask;
    }

    int key(int h, int k, int what) {
        keyExists(h, k);
        range(what, 0, 5);
        Rec r = rec(h, k);
        if (r == null) {
            return NONE;
        }
        return switch (what) {
            case 0 -> r.code;
            case 1 -> r.number;
            case 2 -> r.generation();
            case 3 -> r.root().house;
            case 4 -> r.wrongBits();
            default -> apart(r.code, r.root().code);
        };
    }

    int record(int i, int what) {
        if (i < 0 || i >= s.records.size()) {
            throw new IndexOutOfBoundsException();
        }
        range(what, 0, 6);
        Rec r = s.records.get(i);
        return switch (what) {
            case 0 -> r.parent == null ? NONE : r.parent.number;
            case 1 -> r.house;
            case 2 -> r.key;
            case 3 -> r.code;
            case 4 -> r.wrongBit == null ? NONE : r.wrongBit;
            case 5 -> (int) s.records.stream().filter(o -> o.parent == r).count();
            default -> (int) s.keys.values().stream()
                    .filter(o -> o.chain().stream().anyMatch(c -> c == r)).count();
        };
    }

    int device(int d, int what) {
        deviceExists(d);
        range(what, 0, 4);
        Dev v = s.devices.get(d);
        return switch (what) {
            case 0 -> v.house;
            case 1 -> v.code;
            case 2 -> v.tolerance;
            case 3 -> v.on ? 1 : 0;
            default -> (int) s.keys.entrySet().stream()
                    .filter(e -> v.accepts(e.getKey() / 10, e.getValue().code, 8)).count();
        };
    }

    int trace(int h, int k, int i) {
        keyExists(h, k);
        range(i, 0, Integer.MAX_VALUE);
        Rec r = rec(h, k);
        return r == null || i >= r.chain().size() ? NONE : r.chain().get(i).number;
    }

    int wentWrong(int h, int k) {
        keyExists(h, k);
        Rec r = rec(h, k);
        return r == null ? NONE : r.chain().stream().filter(c -> c.wrongBit != null)
                .mapToInt(Rec::number).min().orElse(NONE);
    }

    int common(int h, int k, int other, int key) {
        keyExists(h, k);
        keyExists(other, key);
        if (rec(h, k) == null || rec(other, key) == null) {
            return NONE;
        }
        Set<Rec> both = java.util.Collections.newSetFromMap(new java.util.IdentityHashMap<>());
        both.addAll(rec(h, k).chain());
        return rec(other, key).chain().stream().filter(both::contains)
                .mapToInt(Rec::number).max().orElse(NONE);
    }

    int accepted(int h, int k) {
        keyExists(h, k);
        Rec r = rec(h, k);
        return r == null ? 0 : mask(d -> d.accepts(h, r.code, s.reach));
    }

    private Rec added(int code, int h, int k, Rec parent, Integer wrongBit) {
        Rec r = new Rec(s.records.size(), code, h, k, parent, wrongBit);
        s.records.add(r);
        s.keys.put(10 * h + k, r);
        return r;
    }

    private Rec entered(int h, int k, int code) {
        return added(code, h, k, null, null);
    }

    int enter(int h, int k, int code) {
        keyExists(h, k);
        range(code, 0, 4095);
        state(s.records.size() < 40);
        remember();
        return entered(h, k, code).number;
    }

    int teach(int from, int k, int to, int learn) {
        keyExists(from, k);
        keyExists(to, learn);
        range(from == to && k == learn ? 1 : 0, 0, 0);
        Rec r = rec(from, k);
        state(r != null && s.records.size() < 40);
        remember();
        s.x = next(s.x);
        int distance = Math.abs(from - to);
        return added(learned(r.code, s.x, s.noise, distance), to, learn, r,
                wrongBit(s.x, s.noise, distance)).code;
    }

    int erase(int h, int k) {
        keyExists(h, k);
        remember();
        Rec r = s.keys.remove(10 * h + k);
        return r == null ? NONE : r.code;
    }

    int press(int h, int k) {
        keyExists(h, k);
        state(rec(h, k) != null);
        remember();
        int mask = accepted(h, k);
        for (int d = 0; d < s.devices.size(); d++) {
            Dev v = s.devices.get(d);
            if (v.accepts(h, rec(h, k).code, s.reach)) {
                s.devices.set(d, new Dev(v.house, v.code, v.tolerance, !v.on));
            }
        }
        return mask;
    }

    int addDevice(int h, int code, int tolerance) {
        house(h);
        range(code, 0, 4095);
        range(tolerance, 0, 3);
        state(s.devices.size() < 6);
        remember();
        s.devices.add(new Dev(h, code, tolerance, false));
        return s.devices.size() - 1;
    }

    int setTolerance(int d, int tolerance) {
        deviceExists(d);
        range(tolerance, 0, 3);
        remember();
        Dev v = s.devices.get(d);
        s.devices.set(d, new Dev(v.house, v.code, tolerance, v.on));
        return v.tolerance;
    }

    int set(int what, int v) {
        range(what, 0, 1);
        range(v, 0, what == 0 ? 3 : 8);
        remember();
        int before = what == 0 ? s.noise : s.reach;
        if (what == 0) {
            s.noise = v;
        } else {
            s.reach = v;
        }
        return before;
    }

    int undo() {
        state(!remembered.isEmpty());
        s = remembered.removeLast();
        return remembered.size();
    }

    int wouldBe(int from, int k, int to) {
        keyExists(from, k);
        house(to);
        Rec r = rec(from, k);
        return r == null ? NONE : learned(r.code, next(s.x), s.noise, Math.abs(from - to));
    }

    int handed(int from, int k, int to) {
        keyExists(from, k);
        house(to);
        if (rec(from, k) == null) {
            return NONE;
        }
        int code = rec(from, k).code;
        BigInteger x = s.x;
        for (int at = from; at != to; at += Integer.signum(to - from)) {
            x = next(x);
            code = learned(code, x, s.noise, 1);
        }
        return code;
    }

    int bestTeacher(int to, int d) {
        house(to);
        deviceExists(d);
        int best = NONE;
        int fewest = 99;
        for (Map.Entry<Integer, Rec> e : s.keys.descendingMap().entrySet()) {
            int code = wouldBe(e.getKey() / 10, e.getKey() % 10, to);
            if (apart(code, s.devices.get(d).code) <= fewest) {
                fewest = apart(code, s.devices.get(d).code);
                best = e.getKey();
            }
        }
        return best;
    }

    int leastTolerance(int d) {
        deviceExists(d);
        int code = s.devices.get(d).code;
        for (int tolerance = 0; tolerance <= 3; tolerance++) {
            Dev v = new Dev(0, code, tolerance, false);
            if (s.keys.values().stream().filter(r -> r.root().code == code)
                    .allMatch(r -> v.accepts(0, r.code, 8))) {
                return tolerance;
            }
        }
        return NONE;
    }

    int runScript(int n, long script) {
        range(n, 1, 3);
        String digits = Long.toString(script);
        range(script < 0 || digits.length() > 5 * n ? 1 : 0, 0, 0);
        String all = "0".repeat(5 * n - digits.length()) + digits;
        State kept = s.copy();
        Deque<State> keptStates = new ArrayDeque<>(remembered);
        int failed = NONE;
        for (int i = 0; i < n && failed == NONE; i++) {
            if (!succeeds(all.substring(5 * i, 5 * i + 5))) {
                failed = i;
            }
        }
        s = kept;
        remembered = keptStates;
        return failed;
    }

    private boolean succeeds(String g) {
        int[] d = g.chars().map(c -> c - '0').toArray();
        if (!g.matches("1....|[2345]..00|[67]..0.|8...0|9.00[01]")) {
            return false;
        }
        try {
            switch (d[0]) {
                case 1 -> teach(d[1], d[2], d[3], d[4]);
                case 2 -> press(d[1], d[2]);
                case 3 -> erase(d[1], d[2]);
                case 4 -> set(d[1], d[2]);
                case 5 -> setTolerance(d[1], d[2]);
                case 6 -> state(key(d[1], d[2], 2) == d[4]);
                case 7 -> state(key(d[1], d[2], 0) != NONE && key(d[1], d[2], 4) <= d[4]);
                case 8 -> {
                    deviceExists(d[3]);
                    state((accepted(d[1], d[2]) >> d[3]) % 2 == 1);
                }
                default -> state(device(d[1], 3) == d[4]);
            }
            return true;
        } catch (IndexOutOfBoundsException | IllegalArgumentException | IllegalStateException e) {
            return false;
        }
    }

    int simulate(int h, int k, long seed, int m) {
        keyExists(h, k);
        range(m, 1, 60);
        if (rec(h, k) == null) {
            return NONE;
        }
        BigInteger x = BigInteger.valueOf(seed).mod(BigInteger.ONE.shiftLeft(64));
        int same = 0;
        int bits = 0;
        for (int i = 0; i < m; i++) {
            int code = rec(h, k).code;
            for (int to = h + 1; to <= s.houses - 1; to++) {
                x = next(x);
                code = learned(code, x, s.noise, 1);
            }
            same += code == rec(h, k).code ? 1 : 0;
            bits += apart(code, rec(h, k).code);
        }
        return 1000 * same + bits;
    }

    int save(int slot) {
        slot(slot);
        slots[slot] = s.copy();
        return s.records.size();
    }

    int restore(int slot) {
        slot(slot);
        state(slots[slot] != null);
        s = slots[slot].copy();
        remembered.clear();
        return s.records.size();
    }

    private static void slot(int slot) {
        if (slot != 0 && slot != 1) {
            throw new IndexOutOfBoundsException();
        }
    }
}
