import java.util.Arrays;
import java.util.HashMap;
import java.util.Map;
import java.util.function.Supplier;

/**
 * Each exception of each method over grids of edges: what the document lists first is thrown, nothing
 * else is, and a call that throws changes nothing.
 */
public final class ExceptionsTest {
    private static final int MIN = Integer.MIN_VALUE;
    private static final int MAX = Integer.MAX_VALUE;
    private static final int[] PLACES = {MIN, -1, 0, 1, 2, 4, 15, 16, 18, 19, 20, MAX};
    private static final Map<String, String> TOLD = new HashMap<>();

    private static int wrong = 0;

    private interface Call {
        Object on(PulseMeadow x, int[] a);
    }

    /** The exception that is due, or null. */
    private interface Rule {
        Class<? extends RuntimeException> due(int[] a);
    }

    public static void main(String[] args) {
        bases();
        puts();
        beatersAlone();
        linksAndNets();
        ticks();
        ways();
        pairs();
        pushes();
        rest();
        if (wrong > 0) {
            System.out.println(wrong + " answers are not as due");
            System.exit(1);
        }
    }

    private static void tell(String text) {
        wrong++;
        if (wrong < 40) {
            System.out.println(text);
        }
    }

    private static PulseMeadow base(String name) {
        return switch (name) {
            case "empty" -> new PulseMeadow();
            case "one" -> Meadows.one();
            case "few" -> Meadows.few();
            case "noisy" -> Meadows.noisy();
            case "endless" -> Meadows.endless();
            case "endlessNoisy" -> Meadows.endlessNoisy();
            case "emptyNoisy" -> Meadows.emptyNoisy();
            case "nine" -> Meadows.nine();
            case "full" -> Meadows.full();
            default -> heldForAWhile();
        };
    }

    private static PulseMeadow heldForAWhile() {
        PulseMeadow x = Meadows.held();
        x.run(3);
        return x;
    }

    private static Class<?> thrown(Supplier<Object> call) {
        try {
            call.get();
            return null;
        } catch (RuntimeException e) {
            return e.getClass();
        }
    }

    private static void grid(String call, String base, Rule rule, Call on, int[]... values) {
        go(call, base, rule, on, values, new int[values.length], 0);
    }

    private static void go(String call, String base, Rule rule, Call on, int[][] values, int[] a, int at) {
        if (at < values.length) {
            for (int value : values[at]) {
                a[at] = value;
                go(call, base, rule, on, values, a, at + 1);
            }
            return;
        }
        PulseMeadow x = base(base);
        Class<?> due = rule.due(a);
        Class<?> got = thrown(() -> on.on(x, a));
        String name = call + Arrays.toString(a) + " on " + base;
        if (due != got) {
            tell(name + " threw " + got + ", due is " + due);
        } else if (got != null && !Told.of(x).equals(TOLD.computeIfAbsent(base, b -> Told.of(base(b))))) {
            tell(name + " threw " + got + ", and changed something");
        }
    }

    /** A method without exceptions of its own arguments, on each base: what is due there. */
    private static void on(String base, String call, Class<? extends RuntimeException> due, Call on) {
        grid(call, base, a -> due, on);
    }

    private static boolean in(int x, int least, int most) {
        return x >= least && x <= most;
    }

    private static boolean hasBeater(String base, int place) {
        return switch (base) {
            case "few", "noisy" -> place == 0 || place == 1 || place == 4;
            case "full" -> in(place, 0, 15);
            case "nine" -> in(place, 0, 8);
            case "one" -> place == 0;
            case "empty", "emptyNoisy" -> false;
            default -> place == 0 || place == 1;
        };
    }

    private static boolean hasNoise(String base) {
        return base.equals("noisy") || base.equals("endlessNoisy") || base.equals("emptyNoisy");
    }

    private static Class<? extends RuntimeException> atBeater(String base, int place) {
        return !in(place, 0, 19) ? Due.BOUNDS : !hasBeater(base, place) ? Due.NO_ELEMENT : null;
    }

    /** What a way asks for: no noise, and not too long. */
    private static Class<? extends RuntimeException> ofWay(String base) {
        return hasNoise(base) ? Due.UNSUPPORTED : base.startsWith("endless") ? Due.ARITHMETIC : null;
    }

    @SafeVarargs
    private static Class<? extends RuntimeException> first(Class<? extends RuntimeException>... listed) {
        for (Class<? extends RuntimeException> e : listed) {
            if (e != null) {
                return e;
            }
        }
        return null;
    }

    private static Class<? extends RuntimeException> range(boolean... good) {
        for (boolean g : good) {
            if (!g) {
                return Due.ARGUMENT;
            }
        }
        return null;
    }

    private static Class<? extends RuntimeException> bounds(boolean good) {
        return good ? null : Due.BOUNDS;
    }

    /** The bases are what the rules take them for. */
    private static void bases() {
        for (String base : new String[] {"few", "nine", "full", "one", "empty", "default"}) {
            on(base, "cycle", null, (x, a) -> x.cycle());
        }
        if (Told.of(Meadows.few()).equals(Told.of(Meadows.noisy()))) {
            tell("what is told of meadows is too little");
        }
    }

    private static void puts() {
        for (String base : new String[] {"empty", "few", "full"}) {
            grid("beater", base, a -> first(
                bounds(in(a[0], 0, 19)),
                range(in(a[1], 2, 99), in(a[2], 0, a[1] - 1), in(a[3], 0, a[1] - 1)),
                a[0] > 15 ? Due.UNSUPPORTED : null),
                (x, a) -> x.beater(a[0], a[1], a[2], a[3]),
                new int[] {MIN, -1, 0, 15, 16, 19, 20, MAX}, new int[] {MIN, 1, 2, 99, 100, MAX},
                new int[] {-1, 0, 1, 2, 98, 99}, new int[] {-1, 0, 1, 2, 98, 99});
            grid("swing", base, a -> first(
                bounds(in(a[0], 0, 19)),
                range(in(a[1], -1000, 1000)),
                a[0] < 16 ? Due.UNSUPPORTED : null),
                (x, a) -> x.swing(a[0], a[1]),
                PLACES, new int[] {MIN, -1001, -1000, 0, 1000, 1001, MAX});
        }
    }

    private static void beatersAlone() {
        for (String base : new String[] {"empty", "few", "noisy", "endless", "full"}) {
            grid("phase", base, a -> atBeater(base, a[0]), (x, a) -> x.phase(a[0]), PLACES);
            grid("flashes", base, a -> atBeater(base, a[0]), (x, a) -> x.flashes(a[0]), PLACES);
            grid("last", base, a -> atBeater(base, a[0]), (x, a) -> x.last(a[0]), PLACES);
            grid("waiting", base, a -> atBeater(base, a[0]), (x, a) -> x.waiting(a[0]), PLACES);
            grid("period", base, a -> first(
                bounds(in(a[0], 0, 19)), range(in(a[1], 2, 99)), atBeater(base, a[0])),
                (x, a) -> x.period(a[0], a[1]), PLACES, new int[] {MIN, -1, 0, 1, 2, 99, 100, MAX});
            grid("answer", base, a -> first(
                bounds(in(a[0], 0, 19)), range(in(a[1], 0, 3), in(a[2], -9, 9)), atBeater(base, a[0])),
                (x, a) -> x.answer(a[0], a[1], a[2]),
                PLACES, new int[] {MIN, -1, 0, 3, 4, MAX}, new int[] {MIN, -10, -9, 0, 9, 10, MAX});
        }
    }

    private static void linksAndNets() {
        for (String base : new String[] {"few", "full"}) {
            grid("link", base, a -> first(
                bounds(in(a[0], 0, 15) && in(a[1], 0, 15)),
                range(a[0] != a[1], in(a[2], 1, 30), in(a[3], 1, 9)),
                base.equals("full") ? Due.STATE : null),
                (x, a) -> x.link(a[0], a[1], a[2], a[3]),
                new int[] {MIN, -1, 0, 15, 16, 20}, new int[] {-1, 0, 15, 16, 19, MAX},
                new int[] {MIN, 0, 1, 30, 31}, new int[] {0, 1, 9, 10, MAX});
        }
        int[] links = {MIN, -1, 0, 3, 4, 59, 60, MAX};
        grid("cut", "empty", a -> Due.BOUNDS, (x, a) -> x.cut(a[0]), links);
        grid("cut", "few", a -> bounds(in(a[0], 0, 3)), (x, a) -> x.cut(a[0]), links);
        grid("cut", "full", a -> bounds(in(a[0], 0, 59)), (x, a) -> x.cut(a[0]), links);
        for (String base : new String[] {"empty", "one", "few", "noisy", "nine", "full"}) {
            boolean many = base.equals("nine") || base.equals("full");
            boolean none = base.equals("empty") || base.equals("one");
            grid("net", base, a -> first(
                range("rlha".indexOf(a[0]) >= 0, in(a[1], 1, 30), in(a[2], 1, 9)),
                none || many && a[0] == 'a' ? Due.UNSUPPORTED : null),
                (x, a) -> x.net((char) a[0], a[1], a[2]),
                new int[] {0, 'a', 'h', 'l', 'r', 'A', 'R', 'b', 65535}, new int[] {MIN, 0, 1, 30, 31, MAX},
                new int[] {MIN, 0, 1, 9, 10, MAX});
        }
    }

    private static void ticks() {
        for (String base : new String[] {"empty", "few", "noisy", "endless", "full"}) {
            grid("run", base, a -> range(in(a[0], 1, 500)), (x, a) -> x.run(a[0]), new int[] {MIN, -1, 0, 1, 500, 501, MAX});
            on(base, "tick", null, (x, a) -> x.tick());
            on(base, "checksum", null, (x, a) -> x.checksum());
            on(base, "isTrue", null, (x, a) -> x.isTrue());
            on(base, "meanPhase", base.equals("empty") ? Due.ARITHMETIC : null, (x, a) -> x.meanPhase());
        }
        on("emptyNoisy", "meanPhase", Due.ARITHMETIC, (x, a) -> x.meanPhase());
    }

    private static void ways() {
        for (String base : new String[] {"empty", "emptyNoisy", "one", "few", "noisy", "endless", "endlessNoisy", "nine", "full"}) {
            Class<? extends RuntimeException> way = ofWay(base);
            on(base, "cycle", way, (x, a) -> x.cycle());
            on(base, "lead", way, (x, a) -> x.lead());
            on(base, "groups", way, (x, a) -> x.groups());
            on(base, "islands", way, (x, a) -> x.islands());
            boolean none = base.startsWith("empty");
            on(base, "stepShare", first(way, none ? Due.ARITHMETIC : null), (x, a) -> x.stepShare());
            grid("strip", base, a -> first(atBeater(base, a[0]), hasNoise(base) ? Due.UNSUPPORTED : null),
                (x, a) -> x.strip(a[0]), PLACES);
            grid("beats", base, a -> first(atBeater(base, a[0]), way), (x, a) -> x.beats(a[0]), PLACES);
            grid("groupOf", base, a -> first(atBeater(base, a[0]), way), (x, a) -> x.groupOf(a[0]), PLACES);
            grid("inStep", base, a -> first(
                bounds(in(a[0], 0, 19) && in(a[1], 0, 19)), atBeater(base, a[0]), atBeater(base, a[1]), way),
                (x, a) -> x.inStep(a[0], a[1]), PLACES, PLACES);
            int flashes = way == null ? flashesInCycle(base) : 0;
            grid("order", base, a -> first(way, in(a[0], 0, flashes - 1) ? null : Due.NO_ELEMENT),
                (x, a) -> x.order(a[0]), new int[] {MIN, -1, 0, flashes - 1, flashes, MAX});
        }
    }

    private static int flashesInCycle(String base) {
        int sum = 0;
        for (int place = 0; place < 16; place++) {
            sum += hasBeater(base, place) ? base(base).beats(place) : 0;
        }
        return sum;
    }

    private static Class<? extends RuntimeException> ofPair(String base, int place, int other, boolean good) {
        return first(bounds(in(place, 0, 19) && in(other, 0, 19)), range(place != other, good),
            atBeater(base, place), atBeater(base, other));
    }

    private static int periodOf(String base, int place) {
        return hasBeater(base, place) ? base(base).period(place, 2) : 1;
    }

    private static boolean tooLong(int period, int other) {
        int most = period * other;
        for (int n = 1; n <= most; n++) {
            if (n % period == 0 && n % other == 0) {
                return n > 1000;
            }
        }
        return true;
    }

    private static void pairs() {
        int[] periods = {MIN, 1, 2, 97, 98, 99, 100, MAX};
        for (String base : new String[] {"empty", "few", "noisy", "endless", "endlessNoisy"}) {
            boolean free = base.startsWith("endless");
            grid("map", base, a -> first(
                ofPair(base, a[0], a[1], true),
                in(a[2], 0, periodOf(base, a[1]) - 1) ? null : Due.ARITHMETIC),
                (x, a) -> x.map(a[0], a[1], a[2]), PLACES, PLACES, new int[] {MIN, -1, 0, 6, 9, 96, 97, 98, MAX});
            grid("locks", base, a -> first(
                ofPair(base, a[0], a[1], in(a[2], 2, 99)),
                free && in(a[2], 2, 99) && tooLong(periodOf(base, a[0]), a[2]) ? Due.ARITHMETIC : null),
                (x, a) -> x.locks(a[0], a[1], a[2]), PLACES, PLACES, periods);
            grid("tongue", base, a -> ofPair(base, a[0], a[1], true),
                (x, a) -> x.tongue(a[0], a[1]), PLACES, PLACES);
        }
        // The first one never flashes; a phase that is none of the second one throws as well.
        grid("map", "held", a -> a[0] == 0 || !in(a[1], 0, 49) ? Due.ARITHMETIC : null,
            (x, a) -> x.map(a[0], 1 - a[0], a[1]), new int[] {0, 1}, new int[] {-1, 0, 1, 2, 49, 50});
    }

    private static void pushes() {
        for (String base : new String[] {"empty", "few", "noisy", "endless", "full"}) {
            grid("push", base, a -> first(
                bounds(in(a[0], 0, 19)), range(in(a[1], -99, 99)), atBeater(base, a[0])),
                (x, a) -> x.push(a[0], a[1]), PLACES, new int[] {MIN, -100, -99, 0, 99, 100, MAX});
        }
        for (String base : new String[] {"empty", "emptyNoisy", "noisy", "endlessNoisy", "nine", "full"}) {
            on(base, "leastPush", Due.UNSUPPORTED, (x, a) -> x.leastPush());
        }
        on("endless", "leastPush", Due.NO_ELEMENT, (x, a) -> x.leastPush());
        on("one", "leastPush", null, (x, a) -> x.leastPush());
    }

    private static void rest() {
        for (String base : new String[] {"empty", "few", "noisy", "full"}) {
            boolean all = base.equals("full");
            boolean some = !base.equals("empty");
            grid("noise", base, a -> range(in(a[0], 0, 99)), (x, a) -> x.noise(a[0]), new int[] {MIN, -1, 0, 99, 100, MAX});
            grid("seed", base, a -> range(in(a[0], 1, 2147483646)), (x, a) -> x.seed(a[0]), new int[] {MIN, -1, 0, 1, MAX - 1, MAX});
            grid("mark", base, a -> first(range(in(a[0], 0, 9999)), all ? Due.STATE : null),
                (x, a) -> x.mark(a[0]), new int[] {MIN, -1, 0, 9999, 10000, MAX});
            on(base, "wipe", null, (x, a) -> x.wipe());
            on(base, "fits", null, (x, a) -> x.fits());
            int fitting = some ? base(base).fits() : 0;
            grid("guess", base, a -> in(a[0], 0, fitting - 1) ? null : Due.NO_ELEMENT,
                (x, a) -> x.guess(a[0]), new int[] {MIN, -1, 0, fitting - 1, fitting, MAX});
            grid("beam", base, a -> range(in(a[0], 1, 99), in(a[1], 0, 99)), (x, a) -> x.beam(a[0], a[1]),
                new int[] {MIN, -1, 0, 1, 99, 100, MAX}, new int[] {MIN, -1, 0, 99, 100, MAX});
            grid("sway", base, a -> range(in(a[0], 1, 500)), (x, a) -> x.sway(a[0]), new int[] {MIN, -1, 0, 1, 500, 501, MAX});
            on(base, "energyBits", null, (x, a) -> x.energyBits());
            grid("angleBits", base, a -> first(
                bounds(in(a[0], 0, 19)),
                all && a[0] > 15 || some && (a[0] == 16 || a[0] == 18) ? null : Due.NO_ELEMENT),
                (x, a) -> x.angleBits(a[0]), PLACES);
        }
    }
}
