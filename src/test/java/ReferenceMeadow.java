import java.util.ArrayList;
import java.util.HashMap;
import java.util.List;
import java.util.Map;
import java.util.NoSuchElementException;
import java.util.TreeMap;

/**
 * The document told once more, as slowly and plainly as it reads, and with the whole Java library:
 * signals one by one, states as texts, all that comes from a state on computed anew for each call.
 */
final class ReferenceMeadow {
    private static final class Beater {
        int period, phase, quiet, flashes, last;
        int[] answers = {1, 1, 1, 1};

        Beater copy() {
            Beater b = new Beater();
            b.period = period;
            b.phase = phase;
            b.quiet = quiet;
            b.flashes = flashes;
            b.last = last;
            b.answers = answers.clone();
            return b;
        }
    }

    private record Link(int from, int to, int delay, int strength) { }

    private record Signal(int to, int tick, int strength) { }

    private static final class Swing {
        float angle, speed;
    }

    private static final class World {
        TreeMap<Integer, Beater> beaters = new TreeMap<>();
        List<Link> links = new ArrayList<>();
        List<Signal> signals = new ArrayList<>();
        int tick = 0, noise = 0;
        long z = 1;

        World quietCopy() {
            World w = new World();
            for (Map.Entry<Integer, Beater> e : beaters.entrySet()) {
                w.beaters.put(e.getKey(), e.getValue().copy());
            }
            w.links.addAll(links);
            w.signals.addAll(signals);
            w.tick = tick;
            return w;
        }

        List<Integer> pass() {
            tick++;
            for (Map.Entry<Integer, Beater> e : beaters.entrySet()) {
                int sum = 0;
                for (Signal s : signals) {
                    if (s.to == e.getKey() && s.tick == tick) {
                        sum += s.strength;
                    }
                }
                Beater b = e.getValue();
                if (b.phase >= b.quiet) {
                    b.phase += b.answers[4 * b.phase / b.period] * sum;
                    if (b.phase < 0) {
                        b.phase = 0;
                    }
                }
            }
            signals.removeIf(s -> s.tick == tick);
            List<Integer> flashed = new ArrayList<>();
            for (Map.Entry<Integer, Beater> e : beaters.entrySet()) {
                Beater b = e.getValue();
                b.phase++;
                if (noise > 0) {
                    z = z * 48271L % 2147483647L;
                    if (z % 100 < noise) {
                        b.phase++;
                    }
                }
                if (b.phase >= b.period) {
                    b.phase = 0;
                    b.flashes++;
                    b.last = tick;
                    flashed.add(e.getKey());
                    for (Link l : links) {
                        if (l.from == e.getKey()) {
                            signals.add(new Signal(l.to, tick + l.delay, l.strength));
                        }
                    }
                }
            }
            return flashed;
        }

        String state() {
            StringBuilder text = new StringBuilder();
            for (Map.Entry<Integer, Beater> e : beaters.entrySet()) {
                text.append(e.getKey()).append(':').append(e.getValue().phase).append(' ');
            }
            TreeMap<Integer, Integer> sums = new TreeMap<>();
            for (Signal s : signals) {
                if (beaters.containsKey(s.to)) {
                    sums.merge(s.to * 100 + s.tick - tick, s.strength, Integer::sum);
                }
            }
            return text.append(sums).toString();
        }
    }

    private static final class Way {
        int lead, cycle;
        List<List<Integer>> inCycle;

        long beats(int place) {
            return inCycle.stream().filter(f -> f.contains(place)).count();
        }

        boolean inStep(int a, int b) {
            return inCycle.stream().allMatch(f -> f.contains(a) == f.contains(b));
        }
    }

    private final World world = new World();
    private final TreeMap<Integer, Swing> swings = new TreeMap<>();
    private final List<Integer> marks = new ArrayList<>();
    private int stiffness = 10, pull = 0;

    private static Way wayFrom(World start) {
        World w = start.quietCopy();
        Map<String, Integer> seen = new HashMap<>();
        List<List<Integer>> flashed = new ArrayList<>();
        seen.put(w.state(), 0);
        for (int t = 1; t <= 1000; t++) {
            flashed.add(w.pass());
            Integer first = seen.putIfAbsent(w.state(), t);
            if (first != null) {
                Way way = new Way();
                way.lead = first;
                way.cycle = t - first;
                way.inCycle = flashed.subList(first, t);
                return way;
            }
        }
        return null;
    }

    private Way way() {
        if (world.noise > 0) {
            throw new UnsupportedOperationException();
        }
        Way way = wayFrom(world);
        if (way == null) {
            throw new ArithmeticException();
        }
        return way;
    }

    private static void bounds(boolean ok) {
        if (!ok) {
            throw new IndexOutOfBoundsException();
        }
    }

    private static void argument(boolean ok) {
        if (!ok) {
            throw new IllegalArgumentException();
        }
    }

    private static void element(boolean ok) {
        if (!ok) {
            throw new NoSuchElementException();
        }
    }

    private static boolean within(int x, int least, int most) {
        return least <= x && x <= most;
    }

    private Beater at(int place) {
        bounds(within(place, 0, 19));
        element(world.beaters.containsKey(place));
        return world.beaters.get(place);
    }

    boolean beater(int place, int period, int phase, int quiet) {
        bounds(within(place, 0, 19));
        argument(within(period, 2, 99) && within(phase, 0, period - 1) && within(quiet, 0, period - 1));
        if (place > 15) {
            throw new UnsupportedOperationException();
        }
        Beater b = new Beater();
        b.period = period;
        b.phase = phase;
        b.quiet = quiet;
        return world.beaters.put(place, b) != null;
    }

    boolean swing(int place, int angle) {
        bounds(within(place, 0, 19));
        argument(within(angle, -1000, 1000));
        if (place < 16) {
            throw new UnsupportedOperationException();
        }
        Swing s = new Swing();
        s.angle = (float) angle / 1000.0f;
        return swings.put(place, s) != null;
    }

    int phase(int place) {
        return at(place).phase;
    }

    int period(int place, int period) {
        bounds(within(place, 0, 19));
        argument(within(period, 2, 99));
        Beater b = at(place);
        int before = b.period;
        b.period = period;
        if (b.phase >= period) {
            b.phase = period - 1;
        }
        if (b.quiet >= period) {
            b.quiet = period - 1;
        }
        return before;
    }

    int answer(int place, int quarter, int by) {
        bounds(within(place, 0, 19));
        argument(within(quarter, 0, 3) && within(by, -9, 9));
        Beater b = at(place);
        int before = b.answers[quarter];
        b.answers[quarter] = by;
        return before;
    }

    int link(int from, int to, int delay, int strength) {
        bounds(within(from, 0, 15) && within(to, 0, 15));
        argument(from != to && within(delay, 1, 30) && within(strength, 1, 9));
        if (world.links.size() == 60) {
            throw new IllegalStateException();
        }
        world.links.add(new Link(from, to, delay, strength));
        return world.links.size() - 1;
    }

    int cut(int link) {
        bounds(within(link, 0, world.links.size() - 1));
        world.links.remove(link);
        return world.links.size();
    }

    int net(char kind, int delay, int strength) {
        argument("rlha".indexOf(kind) >= 0 && within(delay, 1, 30) && within(strength, 1, 9));
        List<Integer> all = new ArrayList<>(world.beaters.keySet());
        List<Link> made = new ArrayList<>();
        for (int i = 0; i < all.size(); i++) {
            if (kind == 'r' || kind == 'l' && i + 1 < all.size()) {
                made.add(new Link(all.get(i), all.get((i + 1) % all.size()), delay, strength));
            }
            if (kind == 'h' && i > 0) {
                made.add(new Link(all.get(0), all.get(i), delay, strength));
                made.add(new Link(all.get(i), all.get(0), delay, strength));
            }
            for (int to : all) {
                if (kind == 'a' && to != all.get(i)) {
                    made.add(new Link(all.get(i), to, delay, strength));
                }
            }
        }
        if (all.size() < 2 || made.size() > 60) {
            throw new UnsupportedOperationException();
        }
        world.links = made;
        return made.size();
    }

    int run(int ticks) {
        argument(within(ticks, 1, 500));
        int sum = 0;
        for (int i = 0; i < ticks; i++) {
            sum += world.pass().size();
        }
        return sum;
    }

    int tick() {
        return world.tick;
    }

    int flashes(int place) {
        return at(place).flashes;
    }

    int last(int place) {
        return at(place).last;
    }

    int waiting(int place) {
        at(place);
        return world.signals.stream().filter(s -> s.to == place).mapToInt(Signal::strength).sum();
    }

    int strip(int place) {
        at(place);
        if (world.noise > 0) {
            throw new UnsupportedOperationException();
        }
        World w = world.quietCopy();
        int bits = 0;
        for (int i = 0; i < 30; i++) {
            if (w.pass().contains(place)) {
                bits += 1 << i;
            }
        }
        return bits;
    }

    int cycle() {
        return way().cycle;
    }

    int lead() {
        return way().lead;
    }

    int beats(int place) {
        at(place);
        return (int) way().beats(place);
    }

    boolean inStep(int place, int other) {
        bounds(within(place, 0, 19) && within(other, 0, 19));
        at(place);
        at(other);
        return way().inStep(place, other);
    }

    private TreeMap<Integer, Integer> groupNumbers() {
        Way way = way();
        TreeMap<Integer, Integer> numbers = new TreeMap<>();
        int next = 0;
        for (int place : world.beaters.keySet()) {
            Integer number = null;
            for (int before : world.beaters.headMap(place).keySet()) {
                if (way.inStep(before, place)) {
                    number = numbers.get(before);
                }
            }
            numbers.put(place, number == null ? next++ : number);
        }
        return numbers;
    }

    int groups() {
        return (int) groupNumbers().values().stream().distinct().count();
    }

    int groupOf(int place) {
        at(place);
        return groupNumbers().get(place);
    }

    int islands() {
        Way way = way();
        List<Integer> all = new ArrayList<>(world.beaters.keySet());
        int breaks = 0;
        for (int i = 0; i < all.size(); i++) {
            if (!way.inStep(all.get(i), all.get((i + 1) % all.size()))) {
                breaks++;
            }
        }
        return all.isEmpty() ? 0 : Math.max(1, breaks);
    }

    int order(int index) {
        List<Integer> all = new ArrayList<>();
        way().inCycle.forEach(all::addAll);
        element(within(index, 0, all.size() - 1));
        return all.get(index);
    }

    private World twoAlone(int place, int other) {
        bounds(within(place, 0, 19) && within(other, 0, 19));
        argument(place != other);
        at(place);
        at(other);
        World w = world.quietCopy();
        w.signals.clear();
        w.beaters.keySet().removeIf(p -> p != place && p != other);
        w.links.removeIf(l -> !w.beaters.containsKey(l.from) || !w.beaters.containsKey(l.to));
        return w;
    }

    int map(int place, int other, int phase) {
        World w = twoAlone(place, other);
        if (!within(phase, 0, w.beaters.get(other).period - 1)) {
            throw new ArithmeticException();
        }
        w.beaters.get(place).phase = 0;
        w.beaters.get(other).phase = phase;
        for (int i = 0; i < 999; i++) {
            if (w.pass().contains(place)) {
                return w.beaters.get(other).phase;
            }
        }
        throw new ArithmeticException();
    }

    boolean locks(int place, int other, int period) {
        bounds(within(place, 0, 19) && within(other, 0, 19));
        argument(place != other && within(period, 2, 99));
        World w = twoAlone(place, other);
        Beater b = w.beaters.get(other);
        b.period = period;
        b.phase = Math.min(b.phase, period - 1);
        b.quiet = Math.min(b.quiet, period - 1);
        Way way = wayFrom(w);
        if (way == null) {
            throw new ArithmeticException();
        }
        return way.beats(place) > 0 && way.beats(place) == way.beats(other);
    }

    int tongue(int place, int other) {
        twoAlone(place, other);
        int count = 0;
        for (int period = 2; period <= 99; period++) {
            try {
                if (locks(place, other, period)) {
                    count++;
                }
            } catch (ArithmeticException e) {
                continue;
            }
        }
        return count;
    }

    int push(int place, int by) {
        bounds(within(place, 0, 19));
        argument(within(by, -99, 99));
        Beater b = at(place);
        b.phase = Math.max(0, Math.min(b.period - 1, b.phase + by));
        return b.phase;
    }

    int leastPush() {
        if (world.noise > 0 || !within(world.beaters.size(), 1, 8)) {
            throw new UnsupportedOperationException();
        }
        List<Integer> all = new ArrayList<>(world.beaters.keySet());
        int best = -1;
        for (int subset = 0; subset < 1 << all.size(); subset++) {
            World w = world.quietCopy();
            int bits = 0;
            for (int i = 0; i < all.size(); i++) {
                if ((subset >> i & 1) == 1) {
                    Beater b = w.beaters.get(all.get(i));
                    b.phase = Math.min(world.beaters.get(all.get(0)).phase, b.period - 1);
                    bits |= 1 << all.get(i);
                }
            }
            if (best >= 0 && Integer.bitCount(best) <= Integer.bitCount(bits)) {
                continue;
            }
            Way way = wayFrom(w);
            if (way != null && all.stream().allMatch(p -> way.inStep(all.get(0), p))) {
                best = bits;
            }
        }
        element(best >= 0);
        return best;
    }

    int noise(int hundredths) {
        argument(within(hundredths, 0, 99));
        int before = world.noise;
        world.noise = hundredths;
        return before;
    }

    int seed(int z) {
        argument(within(z, 1, 2147483646));
        int before = (int) world.z;
        world.z = z;
        return before;
    }

    int mark(int tick) {
        argument(within(tick, 0, 9999));
        if (marks.size() == 20) {
            throw new IllegalStateException();
        }
        marks.add(tick);
        return marks.size();
    }

    int wipe() {
        int before = marks.size();
        marks.clear();
        return before;
    }

    private List<Integer> fitting() {
        List<Integer> periods = new ArrayList<>();
        for (int p = 99; p >= 2; p--) {
            int period = p;
            if (marks.stream().map(m -> m % period).distinct().count() <= 1) {
                periods.add(p);
            }
        }
        return periods;
    }

    int fits() {
        return fitting().size();
    }

    int guess(int index) {
        element(marks.size() >= 2 && within(index, 0, fitting().size() - 1));
        return fitting().get(index);
    }

    int beam(int stiffness, int pull) {
        argument(within(stiffness, 1, 99) && within(pull, 0, 99));
        int before = this.stiffness;
        this.stiffness = stiffness;
        this.pull = pull;
        return before;
    }

    int sway(int steps) {
        argument(within(steps, 1, 500));
        for (int i = 0; i < steps && !swings.isEmpty(); i++) {
            float sum = 0f;
            for (Swing s : swings.values()) {
                sum += s.angle;
            }
            float mean = sum / (float) swings.size();
            for (Swing s : swings.values()) {
                s.speed += 0.01f * ((float) pull * (mean - s.angle) - (float) stiffness * s.angle);
            }
            for (Swing s : swings.values()) {
                s.angle += 0.01f * s.speed;
            }
        }
        return swings.size();
    }

    int angleBits(int place) {
        bounds(within(place, 0, 19));
        element(swings.containsKey(place));
        return Float.floatToIntBits(swings.get(place).angle);
    }

    long energyBits() {
        double sum = 0;
        for (Swing s : swings.values()) {
            double v = s.speed, a = s.angle, k = stiffness;
            sum += 0.5 * (v * v) + (0.5 * k) * (a * a);
        }
        return Double.doubleToLongBits(sum);
    }

    float stepShare() {
        if (world.noise > 0) {
            throw new UnsupportedOperationException();
        }
        if (world.beaters.isEmpty()) {
            throw new ArithmeticException();
        }
        Way way = way();
        long with = world.beaters.keySet().stream().filter(p -> way.inStep(world.beaters.firstKey(), p)).count();
        return (float) with / (float) world.beaters.size();
    }

    double meanPhase() {
        if (world.beaters.isEmpty()) {
            throw new ArithmeticException();
        }
        double sum = world.beaters.values().stream().mapToInt(b -> b.phase).sum();
        return sum / (double) world.beaters.size();
    }

    long checksum() {
        long sum = 7;
        for (int place : world.beaters.keySet()) {
            sum = 31 * sum + phase(place);
            sum = 31 * sum + flashes(place);
            sum = 31 * sum + waiting(place);
        }
        for (Swing s : swings.values()) {
            sum = 31 * sum + Float.floatToIntBits(s.angle);
        }
        return 31 * sum + world.tick;
    }

    boolean isTrue() {
        return true;
    }
}
