import java.nio.charset.StandardCharsets;
import java.util.ArrayList;
import java.util.Comparator;
import java.util.LinkedHashMap;
import java.util.List;
import java.util.Map;
import java.util.NoSuchElementException;

/**
 * The document once more, written plainly with the whole Java library and without the program's
 * ways: it copies freely, collects every error of a text and takes the first.
 */
final class Model {
    static final class Mass {
        long weight = 10, at, momentum;
    }

    static final class Spring {
        long stiffness = 100, limit;
        boolean broken;
    }

    record Impulse(long tick, int mass, long strength) {
    }

    record Fault(int offset, int code) {
    }

    static final class World {
        List<Mass> masses = new ArrayList<>();
        List<Spring> springs = new ArrayList<>();
        List<Impulse> told = new ArrayList<>();
        Map<Long, Long> noted = new LinkedHashMap<>();
        long left, right, damping, time;
        long[] account = new long[6];

        World(int n) {
            for (int k = 0; k < n; k++) {
                masses.add(new Mass());
            }
            for (int k = 0; k <= n; k++) {
                springs.add(new Spring());
            }
        }

        World copy() {
            World w = new World(masses.size());
            for (int k = 0; k < masses.size(); k++) {
                w.masses.get(k).weight = masses.get(k).weight;
                w.masses.get(k).at = masses.get(k).at;
                w.masses.get(k).momentum = masses.get(k).momentum;
            }
            for (int k = 0; k < springs.size(); k++) {
                w.springs.get(k).stiffness = springs.get(k).stiffness;
                w.springs.get(k).limit = springs.get(k).limit;
                w.springs.get(k).broken = springs.get(k).broken;
            }
            w.told.addAll(told);
            w.noted.putAll(noted);
            w.left = left;
            w.right = right;
            w.damping = damping;
            w.time = time;
            w.account = account.clone();
            return w;
        }

        long stretch(int k) {
            List<Long> row = new ArrayList<>();
            row.add(left);
            masses.forEach(m -> row.add(m.at));
            row.add(right);
            return row.get(k + 1) - row.get(k);
        }

        long pull(int k) {
            Spring s = springs.get(k);
            return s.broken ? 0 : s.stiffness * stretch(k) / 100;
        }

        List<Impulse> waiting() {
            List<Impulse> list = new ArrayList<>(told);
            list.removeIf(i -> i.tick < time);
            list.sort(Comparator.comparingLong(Impulse::tick).thenComparingInt(Impulse::mass));
            return list;
        }

        long broken() {
            return springs.stream().filter(s -> s.broken).count();
        }

        long pattern() {
            long sum = 0;
            long worth = 1;
            for (Mass m : masses) {
                sum += worth * (m.at == 0 ? 0 : m.at > 0 ? 1 : 2);
                worth *= 3;
            }
            return sum;
        }

        long nodes() {
            StringBuilder signs = new StringBuilder();
            for (Mass m : masses) {
                signs.append(m.at > 0 ? "+" : m.at < 0 ? "-" : "");
            }
            long n = 0;
            for (int k = 1; k < signs.length(); k++) {
                n += signs.charAt(k) != signs.charAt(k - 1) ? 1 : 0;
            }
            return n;
        }

        int tick() {
            List<Long> pulls = new ArrayList<>();
            for (int k = 0; k < springs.size(); k++) {
                pulls.add(pull(k));
            }
            account[1] -= pulls.get(0);
            account[2] += pulls.get(pulls.size() - 1);
            for (int k = 0; k < masses.size(); k++) {
                masses.get(k).momentum += pulls.get(k + 1) - pulls.get(k);
            }
            for (Impulse i : told) {
                if (i.tick == time) {
                    masses.get(i.mass).momentum += i.strength;
                    account[3] += i.strength;
                }
            }
            for (Mass m : masses) {
                long taken = m.momentum * damping / 1000;
                m.momentum -= taken;
                account[4] += taken;
                long whole = m.momentum;
                m.momentum = Math.max(-100_000_000L, Math.min(100_000_000L, whole));
                account[5] += whole - m.momentum;
                m.at = Math.max(-1_000_000L, Math.min(1_000_000L, m.at + m.momentum / m.weight));
            }
            int broke = 0;
            for (int k = 0; k < springs.size(); k++) {
                Spring s = springs.get(k);
                if (!s.broken && s.limit != 0 && (stretch(k) > s.limit || stretch(k) < -s.limit)) {
                    s.broken = true;
                    broke++;
                }
            }
            long p = pattern();
            if (noted.containsKey(p) || noted.size() < 32) {
                noted.merge(p, 1L, Long::sum);
            }
            time++;
            return broke;
        }

        void strike(int mass, long strength) {
            Mass m = masses.get(mass);
            long then = Math.max(-100_000_000L, Math.min(100_000_000L, m.momentum + strength));
            account[3] += then - m.momentum;
            m.momentum = then;
        }
    }

    World world = new World(1);
    List<World> past = new ArrayList<>();
    List<Byte> input = new ArrayList<>();
    int offset = -1;

    private void change() {
        past.add(world.copy());
        if (past.size() > 8) {
            past.remove(0);
        }
    }

    private static void need(boolean good) {
        if (!good) {
            throw new IllegalArgumentException();
        }
    }

    private static void within(long n, long least, long most) {
        need(n >= least && n <= most);
    }

    private void needMass(int mass) {
        if (mass < 0 || mass >= world.masses.size()) {
            throw new IndexOutOfBoundsException();
        }
    }

    private void needSpring(int spring) {
        if (spring < 0 || spring >= world.springs.size()) {
            throw new IndexOutOfBoundsException();
        }
    }

    Object call(String name, int[] a) {
        switch (name) {
            case "append":
                return append(a);
            case "load":
                return load(a[0]);
            case "errorOffset":
                return offset;
            case "state":
                return state(a[0]);
            case "account":
                return account(a[0]);
            case "mass":
                needMass(a[0]);
                within(a[1], 0, 3);
                return mass(a[0], a[1]);
            case "spring":
                needSpring(a[0]);
                within(a[1], 0, 4);
                return spring(a[0], a[1]);
            case "noted":
                return noted(a[0], a[1]);
            case "waiting":
                return waiting(a[0], a[1]);
            case "foretold":
                return foretold(a[0], a[1], a[2]);
            case "period":
                return period(a[0], a[1]);
            case "breaksIn":
                return breaksIn(a[0]);
            case "pieces":
                return pieces();
            case "centre":
                return centre();
            case "checksum":
                return checksum();
            case "undo":
                if (past.isEmpty()) {
                    return -1;
                }
                world = past.remove(past.size() - 1);
                return past.size();
            default:
                return changing(name, a);
        }
    }

    private Object changing(String name, int[] a) {
        switch (name) {
            case "pass": {
                within(a[0], 1, 50);
                change();
                int broke = 0;
                for (int k = 0; k < a[0]; k++) {
                    broke += world.tick();
                }
                return broke;
            }
            case "pluck": {
                needMass(a[0]);
                within(a[1], -10000, 10000);
                change();
                long before = world.masses.get(a[0]).at;
                world.masses.get(a[0]).at = a[1];
                return before;
            }
            case "strike":
                needMass(a[0]);
                within(a[1], -100000, 100000);
                change();
                world.strike(a[0], a[1]);
                return world.masses.get(a[0]).momentum;
            case "impulse":
                needMass(a[1]);
                within(a[0], world.time, 9999);
                within(a[2], -9999, 9999);
                need(a[2] != 0);
                if (world.waiting().size() == 16) {
                    throw new IllegalStateException();
                }
                change();
                world.told.add(new Impulse(a[0], a[1], a[2]));
                return world.waiting().size();
            case "stiffen": {
                needSpring(a[0]);
                within(a[1], 0, 999);
                change();
                long before = world.springs.get(a[0]).stiffness;
                world.springs.get(a[0]).stiffness = a[1];
                return before;
            }
            case "mend":
                needSpring(a[0]);
                if (!world.springs.get(a[0]).broken) {
                    throw new IllegalStateException();
                }
                change();
                world.springs.get(a[0]).broken = false;
                return world.broken();
            case "move": {
                within(a[1], -100000, 100000);
                change();
                long before = a[0] != 0 ? world.right : world.left;
                if (a[0] != 0) {
                    world.right = a[1];
                } else {
                    world.left = a[1];
                }
                return before;
            }
            default:
                throw new UnsupportedOperationException(name);
        }
    }

    private Object append(int[] words) {
        if (input.size() + 20 > 500) {
            return -1;
        }
        for (int w : words) {
            for (byte b : java.nio.ByteBuffer.allocate(4).putInt(w).array()) {
                input.add(b);
            }
        }
        return input.size();
    }

    private Object load(int length) {
        need(length >= 0 && length <= input.size());
        byte[] bytes = new byte[length];
        for (int k = 0; k < length; k++) {
            bytes[k] = input.get(k);
        }
        input.clear();
        ModelText text = new ModelText(new String(bytes, StandardCharsets.ISO_8859_1));
        Fault fault = text.firstFault();
        offset = fault == null ? -1 : fault.offset();
        if (fault != null) {
            return fault.code();
        }
        change();
        world = text.world;
        return world.masses.size();
    }

    private long state(int what) {
        within(what, 0, 11);
        World w = world;
        long far = 0;
        for (Mass m : w.masses) {
            far = Math.max(far, Math.abs(m.at));
        }
        int farthest = 0;
        while (Math.abs(w.masses.get(farthest).at) != far) {
            farthest++;
        }
        return new long[] {w.time, w.masses.size(), w.broken(), w.left, w.right, w.damping, w.waiting().size(),
            w.pattern(), w.nodes(), w.noted.size(), w.masses.stream().filter(m -> m.momentum == 0).count(),
            farthest}[what];
    }

    private long account(int what) {
        within(what, 0, 7);
        if (what == 0) {
            return world.masses.stream().mapToLong(m -> m.momentum).sum();
        }
        if (what == 6) {
            return world.masses.stream().mapToLong(m -> m.momentum * m.momentum / (2 * m.weight)).sum();
        }
        if (what == 7) {
            long sum = 0;
            for (int k = 0; k < world.springs.size(); k++) {
                Spring s = world.springs.get(k);
                sum += s.broken ? 0 : s.stiffness * world.stretch(k) * world.stretch(k) / 200;
            }
            return sum;
        }
        return world.account[what];
    }

    private long mass(int mass, int what) {
        Mass m = world.masses.get(mass);
        return new long[] {m.weight, m.at, m.momentum, m.momentum / m.weight}[what];
    }

    private long spring(int spring, int what) {
        Spring s = world.springs.get(spring);
        return new long[] {s.stiffness, s.limit, s.broken ? 1 : 0, world.stretch(spring), world.pull(spring)}[what];
    }

    private long noted(int k, int what) {
        if (k < 0 || k >= world.noted.size()) {
            throw new NoSuchElementException();
        }
        within(what, 0, 1);
        Map.Entry<Long, Long> entry = new ArrayList<>(world.noted.entrySet()).get(k);
        return what == 0 ? entry.getKey() : entry.getValue();
    }

    private long waiting(int k, int what) {
        List<Impulse> list = world.waiting();
        if (k < 0 || k >= list.size()) {
            throw new NoSuchElementException();
        }
        within(what, 0, 2);
        Impulse i = list.get(k);
        return what == 0 ? i.tick : what == 1 ? i.mass : i.strength;
    }

    private long foretold(int ticks, int mass, int what) {
        needMass(mass);
        within(ticks, 1, 200);
        within(what, 0, 4);
        World w = world.copy();
        long greatest = 0;
        for (int k = 0; k < ticks; k++) {
            w.tick();
            greatest = Math.max(greatest, Math.abs(w.masses.get(mass).at));
        }
        return new long[] {w.masses.get(mass).at, w.masses.get(mass).momentum, greatest, w.broken(), w.nodes()}[what];
    }

    private long period(int mass, int limit) {
        needMass(mass);
        within(limit, 1, 300);
        World w = world.copy();
        List<Integer> rises = new ArrayList<>();
        for (int k = 0; k < limit; k++) {
            long ahead = w.masses.get(mass).at;
            w.tick();
            if (ahead <= 0 && w.masses.get(mass).at > 0) {
                rises.add(k);
            }
        }
        return rises.size() < 2 ? -1 : rises.get(1) - rises.get(0);
    }

    private long breaksIn(int limit) {
        within(limit, 1, 200);
        World w = world.copy();
        for (int k = 1; k <= limit; k++) {
            if (w.tick() != 0) {
                return k;
            }
        }
        return -1;
    }

    private long pieces() {
        long n = world.masses.size();
        for (Spring s : world.springs.subList(1, world.masses.size())) {
            n -= !s.broken && s.stiffness > 0 ? 1 : 0;
        }
        return n;
    }

    private double centre() {
        long above = 0;
        long below = 0;
        for (Mass m : world.masses) {
            above += m.weight * m.at;
            below += m.weight;
        }
        return (double) above / (double) below;
    }

    private long checksum() {
        List<Long> all = new ArrayList<>();
        for (int k = 0; k < 12; k++) {
            all.add(state(k));
        }
        for (int k = 0; k < 8; k++) {
            all.add(account(k));
        }
        for (int m = 0; m < world.masses.size(); m++) {
            for (int k = 0; k < 4; k++) {
                all.add(mass(m, k));
            }
        }
        for (int s = 0; s < world.springs.size(); s++) {
            for (int k = 0; k < 5; k++) {
                all.add(spring(s, k));
            }
        }
        world.noted.forEach((pattern, times) -> {
            all.add(pattern);
            all.add(times);
        });
        long sum = 0;
        for (long n : all) {
            sum = 31 * sum + n;
        }
        return sum;
    }
}
