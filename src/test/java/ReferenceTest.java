import java.util.ArrayList;
import java.util.List;
import java.util.Random;
import java.util.function.Function;
import java.util.function.Supplier;

/** Runs of calls by lots, each answer and each exception beside that of ReferenceMeadow. */
public final class ReferenceTest {
    private final Random lots;
    private final boolean small;
    private final PulseMeadow x = new PulseMeadow();
    private final ReferenceMeadow y = new ReferenceMeadow();
    private final List<String> told = new ArrayList<>();
    private int[] places;
    private boolean same = true;

    private ReferenceTest(int seed) {
        lots = new Random(seed);
        small = lots.nextBoolean();
        int count = lots.nextInt(10) == 0 ? 16 : 1 + lots.nextInt(8);
        places = lots.ints(0, 16).distinct().limit(count).toArray();
    }

    public static void main(String[] args) {
        int runs = args.length > 0 ? Integer.parseInt(args[0]) : 250;
        int first = args.length > 1 ? Integer.parseInt(args[1]) : 1;
        int wrong = 0;
        for (int seed = first; seed < first + runs && wrong < 3; seed++) {
            ReferenceTest test = new ReferenceTest(seed);
            if (!test.go()) {
                wrong++;
            }
        }
        if (wrong > 0) {
            System.exit(1);
        }
    }

    /** Beaters at most of the places, in half of the runs all of one period. */
    private void settle() {
        boolean alike = lots.nextBoolean();
        int shared = small ? 2 + lots.nextInt(11) : 2 + lots.nextInt(98);
        for (int p : places) {
            int n = alike ? shared : small ? 2 + lots.nextInt(11) : 2 + lots.nextInt(98);
            int f = lots.nextInt(n);
            int q = lots.nextInt(3) == 0 ? lots.nextInt(n) : 0;
            if (lots.nextInt(8) > 0) {
                both("beater(" + p + ", " + n + ", " + f + ", " + q + ")", () -> x.beater(p, n, f, q), () -> y.beater(p, n, f, q));
            }
            if (alike && lots.nextInt(4) == 0) {
                both("leastPush()", x::leastPush, y::leastPush);
            }
        }
    }

    private boolean go() {
        settle();
        int calls = 20 + lots.nextInt(80);
        for (int i = 0; i < calls && same; i++) {
            call();
        }
        return same;
    }

    private static String answer(Supplier<Object> call) {
        try {
            return String.valueOf(call.get());
        } catch (RuntimeException e) {
            return "throws." + e.getClass().getSimpleName();
        }
    }

    private void both(String name, Supplier<Object> mine, Supplier<Object> reference) {
        told.add(name);
        String got = answer(mine);
        String want = answer(reference);
        if (!got.equals(want) && same) {
            same = false;
            System.out.println(String.join("; ", told) + " answered " + got + ", due is " + want);
        }
    }

    private int number(int least, int most) {
        return lots.nextInt(60) == 0 ? (lots.nextBoolean() ? least - 1 : most + 1) : least + lots.nextInt(most - least + 1);
    }

    private int place() {
        if (lots.nextInt(25) == 0) {
            return number(0, 19);
        }
        return places[lots.nextInt(places.length)];
    }

    private int other(int place) {
        int other = place();
        return other == place ? place() : other;
    }

    private int anyPeriod() {
        return small ? number(2, 12) : number(2, 99);
    }

    private void call() {
        int kind = lots.nextInt(100);
        if (kind < 14) {
            int p = place(), n = anyPeriod();
            int f = number(0, Math.max(1, n - 1)), q = lots.nextInt(3) == 0 ? number(0, Math.max(1, n - 1)) : 0;
            both("beater(" + p + ", " + n + ", " + f + ", " + q + ")", () -> x.beater(p, n, f, q), () -> y.beater(p, n, f, q));
        } else if (kind < 24) {
            int a = place(), b = other(a), d = number(1, lots.nextBoolean() ? 4 : 30), s = number(1, 9);
            both("link(" + a + ", " + b + ", " + d + ", " + s + ")", () -> x.link(a, b, d, s), () -> y.link(a, b, d, s));
        } else if (kind < 30) {
            int p = place(), k = number(0, 3), by = number(-9, 9);
            both("answer(" + p + ", " + k + ", " + by + ")", () -> x.answer(p, k, by), () -> y.answer(p, k, by));
        } else if (kind < 34) {
            char k = "rlhaq".charAt(lots.nextInt(5));
            int d = number(1, 30), s = number(1, 9);
            both("net('" + k + "', " + d + ", " + s + ")", () -> x.net(k, d, s), () -> y.net(k, d, s));
        } else if (kind < 42) {
            int t = lots.nextInt(3) == 0 ? number(1, 500) : number(1, 20);
            both("run(" + t + ")", () -> x.run(t), () -> y.run(t));
        } else if (kind < 46) {
            int p = place(), by = number(-99, 99) / (lots.nextBoolean() ? 1 : 20);
            both("push(" + p + ", " + by + ")", () -> x.push(p, by), () -> y.push(p, by));
        } else if (kind < 72) {
            askWay(lots.nextInt(10));
        } else if (kind < 80) {
            askPair(lots.nextInt(8));
        } else {
            callRest(lots.nextInt(21));
        }
    }

    private void askWay(int kind) {
        int p = place(), o = place(), i = number(0, 12);
        switch (kind) {
            case 0 -> both("cycle()", x::cycle, y::cycle);
            case 1 -> both("lead()", x::lead, y::lead);
            case 2 -> both("beats(" + p + ")", () -> x.beats(p), () -> y.beats(p));
            case 3 -> both("inStep(" + p + ", " + o + ")", () -> x.inStep(p, o), () -> y.inStep(p, o));
            case 4 -> both("groups()", x::groups, y::groups);
            case 5 -> both("groupOf(" + p + ")", () -> x.groupOf(p), () -> y.groupOf(p));
            case 6 -> both("islands()", x::islands, y::islands);
            case 7 -> both("order(" + i + ")", () -> x.order(i), () -> y.order(i));
            case 8 -> both("strip(" + p + ")", () -> x.strip(p), () -> y.strip(p));
            default -> both("stepShare()", x::stepShare, y::stepShare);
        }
    }

    private void askPair(int kind) {
        int p = place(), o = other(p), n = anyPeriod(), f = lots.nextInt(10) == 0 ? number(0, n) : lots.nextInt(6);
        if (kind < 3) {
            both("map(" + p + ", " + o + ", " + f + ")", () -> x.map(p, o, f), () -> y.map(p, o, f));
        } else if (kind < 6) {
            both("locks(" + p + ", " + o + ", " + n + ")", () -> x.locks(p, o, n), () -> y.locks(p, o, n));
        } else if (kind < 7) {
            both("tongue(" + p + ", " + o + ")", () -> x.tongue(p, o), () -> y.tongue(p, o));
        } else {
            both("leastPush()", x::leastPush, y::leastPush);
        }
    }

    private void callRest(int kind) {
        int p = place(), n = anyPeriod(), i = number(0, 9), h = lots.nextBoolean() ? 0 : number(0, 99);
        int z = lots.nextInt(20) == 0 ? number(1, 2147483645) - 1 : 1 + lots.nextInt(2147483646);
        int w = number(16, 19), a = number(-1000, 1000), t = number(0, 9) * 12 + number(0, 999) / 990;
        int k = number(1, 99), l = lots.nextBoolean() ? 0 : number(0, 99), s = number(1, 500);
        switch (kind) {
            case 0 -> both("period(" + p + ", " + n + ")", () -> x.period(p, n), () -> y.period(p, n));
            case 1 -> both("cut(" + i + ")", () -> x.cut(i), () -> y.cut(i));
            case 2 -> both("phase(" + p + ")", () -> x.phase(p), () -> y.phase(p));
            case 3 -> both("tick()", x::tick, y::tick);
            case 4 -> both("flashes(" + p + ")", () -> x.flashes(p), () -> y.flashes(p));
            case 5 -> both("last(" + p + ")", () -> x.last(p), () -> y.last(p));
            case 6 -> both("waiting(" + p + ")", () -> x.waiting(p), () -> y.waiting(p));
            case 7 -> both("noise(" + h + ")", () -> x.noise(h), () -> y.noise(h));
            case 8 -> both("seed(" + z + ")", () -> x.seed(z), () -> y.seed(z));
            case 9, 10 -> both("mark(" + t + ")", () -> x.mark(t), () -> y.mark(t));
            case 11 -> both("wipe()", x::wipe, y::wipe);
            case 12 -> both("fits()", x::fits, y::fits);
            case 13 -> both("guess(" + i + ")", () -> x.guess(i), () -> y.guess(i));
            case 14 -> both("beam(" + k + ", " + l + ")", () -> x.beam(k, l), () -> y.beam(k, l));
            case 15 -> both("sway(" + s + ")", () -> x.sway(s), () -> y.sway(s));
            case 16 -> both("swing(" + w + ", " + a + ")", () -> x.swing(w, a), () -> y.swing(w, a));
            case 17 -> both("angleBits(" + w + ")", () -> x.angleBits(w), () -> y.angleBits(w));
            case 18 -> both("energyBits()", x::energyBits, y::energyBits);
            case 19 -> both("meanPhase()", x::meanPhase, y::meanPhase);
            default -> {
                both("checksum()", x::checksum, y::checksum);
                both("isTrue()", x::isTrue, y::isTrue);
            }
        }
    }
}
