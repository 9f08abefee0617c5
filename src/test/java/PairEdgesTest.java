/** Promises 24 to 26: each sentence that names a boundary, for two beaters alone. */
public final class PairEdgesTest {
    private static final Due DUE = new Due();

    public static void main(String[] args) {
        phasesOfTheSecondOne();
        flashIn999Ticks();
        phaseBehindTheFlash();
        twoAloneForAMap();
        leastAndGreatestPeriods();
        phaseAndQuietTimeThen();
        twoAloneForLocking();
        equallyOftenOnceAtLeast();
        justShortEnough();
        periodsOfATongue();
        tooLongOnesAside();
        pairsAtAllPlaces();
        nothingOfNowChanges();
        nothingIsLeftBehind();
        DUE.end();
    }

    private static void phasesOfTheSecondOne() {
        DUE.promise(24, "the phase is one of the second one");
        for (int first : new int[] {2, 50, 99}) {
            for (int second : new int[] {2, 3, 50, 98, 99}) {
                PulseMeadow x = Meadows.beaters(first, first - 1, second, 0);
                DUE.is(first % second, x.map(0, 1, 0));
                DUE.is((first + second - 1) % second, x.map(0, 1, second - 1));
                DUE.fails(Due.ARITHMETIC, () -> x.map(0, 1, second));
                DUE.fails(Due.ARITHMETIC, () -> x.map(0, 1, -1));
                DUE.fails(Due.ARITHMETIC, () -> x.map(0, 1, 99));
                DUE.fails(Due.ARITHMETIC, () -> x.map(0, 1, Integer.MAX_VALUE));
                DUE.fails(Due.ARITHMETIC, () -> x.map(0, 1, Integer.MIN_VALUE));
            }
        }
    }

    /** The second one, of the period 49, holds the first one back by 7 each time it flashes. */
    private static PulseMeadow heldBack(int period) {
        PulseMeadow x = Meadows.beaters(period, 7, 49, 0);
        x.answer(0, 3, -6);
        x.link(1, 0, 1, 8);
        return x;
    }

    private static void flashIn999Ticks() {
        DUE.promise(24, "the first one flashes in 999 ticks");
        DUE.is((30 + 999) % 49, heldBack(95).map(0, 1, 30));
        DUE.fails(Due.ARITHMETIC, () -> heldBack(96).map(0, 1, 29));
        PulseMeadow held = Meadows.held();
        DUE.fails(Due.ARITHMETIC, () -> held.map(0, 1, 0));
        DUE.fails(Due.ARITHMETIC, () -> held.map(0, 1, 1));
        DUE.is(2, held.map(1, 0, 0));
        // The 49th phase: the first one is held back ahead of its first tick's flash.
        DUE.is(0, held.map(1, 0, 48));
    }

    private static void phaseBehindTheFlash() {
        DUE.promise(24, "the phase of the second one behind the tick in which the first one flashes next");
        // It may flash in that tick too, and be pulled in it.
        PulseMeadow x = Meadows.beaters(10, 0, 10, 0);
        DUE.is(0, x.map(0, 1, 0));
        DUE.is(9, x.map(0, 1, 9));
        DUE.is(1, x.map(0, 1, 1));
        // A signal that the first one sends in that tick comes later: no part of it.
        x.link(0, 1, 1, 9);
        DUE.is(5, x.map(0, 1, 5));
        // The first one begins at the phase 0, whatever its phase is now.
        x.push(0, 9);
        DUE.is(5, x.map(0, 1, 5));
        x.push(0, -4);
        DUE.is(5, x.map(0, 1, 5));
        // What the second one sends while the first one is on its way counts.
        PulseMeadow y = Meadows.beaters(10, 0, 10, 0);
        y.link(1, 0, 1, 2);
        DUE.is(5, y.map(0, 1, 7));
        DUE.is(0, y.map(0, 1, 0));
        // The signal of tick 9 is heeded in tick 10, as the first one flashes anyhow.
        DUE.is(1, y.map(0, 1, 1));
        DUE.is(1, y.map(0, 1, 2));
    }

    private static void twoAloneForAMap() {
        DUE.promise(24, "the two alone, no signal being under way, and no noise");
        PulseMeadow x = Meadows.beaters(10, 0, 10, 0, 2, 1);
        x.link(2, 0, 1, 9);
        x.link(2, 1, 1, 9);
        x.link(0, 2, 1, 9);
        x.run(1);
        for (int noise : new int[] {0, 1, 99}) {
            x.noise(noise);
            for (int phase = 0; phase < 10; phase++) {
                DUE.is(phase, x.map(0, 1, phase));
                DUE.is(phase, x.map(1, 0, phase));
            }
        }
        DUE.is(1, x.seed(1));
        DUE.is(9, x.waiting(0));
        // Quiet times, answers, several links between both: as they are now.
        PulseMeadow y = new PulseMeadow();
        y.beater(0, 10, 0, 3);
        y.beater(1, 10, 0, 0);
        y.answer(0, 1, 2);
        y.link(1, 0, 1, 1);
        y.link(1, 0, 1, 1);
        // The second one flashes in tick 10 - phase, its signals come a tick later, at the phase 10 - phase.
        int[] due = {0, 1, 1, 1, 2, 3, 2, 3, 8, 9};
        for (int phase = 0; phase < 10; phase++) {
            DUE.is(due[phase], y.map(0, 1, phase));
        }
    }

    private static void leastAndGreatestPeriods() {
        DUE.promise(25, "the period of the second one is 2 to 99");
        for (int period : new int[] {2, 3, 98, 99}) {
            PulseMeadow x = Meadows.beaters(period, 0, 50, 49);
            DUE.is(true, x.locks(0, 1, period));
            DUE.fails(Due.ARGUMENT, () -> x.locks(0, 1, 1));
            DUE.fails(Due.ARGUMENT, () -> x.locks(0, 1, 0));
            DUE.fails(Due.ARGUMENT, () -> x.locks(0, 1, 100));
        }
        DUE.is(false, Meadows.beaters(2, 0, 50, 49).locks(0, 1, 99));
        DUE.is(false, Meadows.beaters(99, 0, 50, 49).locks(0, 1, 2));
    }

    private static void phaseAndQuietTimeThen() {
        DUE.promise(25, "its phase, and quiet time, if they are not below its period, are 1 less than it");
        for (int period = 4; period <= 30; period++) {
            for (int phase : new int[] {0, period - 2, period - 1, period, period + 1, 39}) {
                for (int quiet : new int[] {0, period - 2, period - 1, period, period + 1, 39}) {
                    PulseMeadow x = twoLinked(phase, quiet);
                    PulseMeadow y = twoLinked(phase, quiet);
                    y.period(1, period);
                    boolean due = y.beats(0) == y.beats(1) && y.beats(0) > 0;
                    DUE.is(due, x.locks(0, 1, period));
                    DUE.is(phase, x.phase(1));
                    DUE.is(40, x.period(1, 40));
                }
            }
        }
        lockedByPhase();
        lockedByQuietTime();
    }

    private static PulseMeadow twoLinked(int phase, int quiet) {
        PulseMeadow x = new PulseMeadow();
        x.beater(0, 6, 2, 0);
        x.beater(1, 40, phase, quiet);
        x.answer(1, 0, 2);
        x.answer(1, 2, -2);
        x.answer(1, 3, -1);
        x.link(0, 1, 1, 1);
        x.link(1, 0, 3, 1);
        return x;
    }

    /** The phase of now decides: of the period 8 these two lock from the phases 6 and 7 alone. */
    private static void lockedByPhase() {
        for (int phase = 0; phase < 41; phase++) {
            DUE.is(phase >= 6, byPhase(41, phase).locks(0, 1, 8));
            PulseMeadow y = byPhase(8, Math.min(phase, 7));
            DUE.is(phase >= 6, y.beats(0) == y.beats(1));
        }
    }

    private static PulseMeadow byPhase(int period, int phase) {
        PulseMeadow x = Meadows.beaters(10, 0, period, phase);
        x.answer(1, 0, 2);
        x.answer(1, 1, -1);
        x.answer(1, 2, 0);
        x.answer(1, 3, 0);
        x.link(0, 1, 3, 3);
        return x;
    }

    /** The second one, of the period 4, is held for a tick at its phase 3 and hurried at its phase 2. */
    private static PulseMeadow byQuiet(int first, int phase, int quiet) {
        PulseMeadow x = new PulseMeadow();
        x.beater(0, 5, first, 0);
        x.beater(1, 40, phase, quiet);
        x.answer(1, 0, 0);
        x.answer(1, 1, 0);
        x.answer(1, 2, 1);
        x.answer(1, 3, -1);
        x.link(0, 1, 1, 1);
        return x;
    }

    private static void lockedByQuietTime() {
        // The first signal comes at the phase (phase + 5 - first) mod 4; later ones at ever later phases,
        // until they hold it at 3; at 2 it is hurried by those that it heeds there.
        for (int first = 0; first < 5; first++) {
            for (int phase = 0; phase < 40; phase++) {
                int comes = (Math.min(phase, 3) + 5 - first) % 4;
                for (int quiet = 0; quiet < 40; quiet++) {
                    boolean due = comes == 3 || quiet >= 3;
                    DUE.is(due, byQuiet(first, phase, quiet).locks(0, 1, 4));
                }
            }
        }
    }

    private static void twoAloneForLocking() {
        DUE.promise(25, "the two alone, no signal being under way, and no noise, for locking");
        PulseMeadow x = Meadows.beaters(10, 3, 10, 8, 2, 1);
        x.link(2, 0, 1, 9);
        x.link(2, 1, 30, 9);
        x.link(0, 2, 1, 9);
        x.run(1);
        for (int noise : new int[] {0, 1, 99}) {
            x.noise(noise);
            DUE.is(true, x.locks(0, 1, 10));
            DUE.is(true, x.locks(1, 0, 10));
            DUE.is(false, x.locks(0, 1, 9));
            DUE.is(false, x.locks(0, 1, 20));
            DUE.is(1, x.tongue(0, 1));
        }
        // With the third one, and its signals, the first one flashes as often as that one.
        x.noise(0);
        DUE.is(true, x.beats(0) == x.beats(2) && x.cycle() == 2 * x.beats(0));
    }

    private static void equallyOftenOnceAtLeast() {
        DUE.promise(25, "they lock if both flash equally often in the cycle, once at least");
        DUE.is(true, Meadows.beaters(6, 0, 6, 5).locks(0, 1, 6));
        DUE.is(false, Meadows.beaters(6, 0, 6, 5).locks(0, 1, 3));
        DUE.is(false, Meadows.beaters(6, 0, 6, 5).locks(0, 1, 12));
        DUE.is(true, Meadows.beaters(6, 0, 99, 98).locks(0, 1, 6));
        // One of them never flashes, while the other one does.
        PulseMeadow held = Meadows.held();
        DUE.is(false, held.locks(0, 1, 2));
        DUE.is(false, held.locks(1, 0, 50));
        DUE.is(true, held.locks(1, 0, 2));
    }

    private static void justShortEnough() {
        DUE.promise(25, "a way of 1000 ticks is not too long, one of 1001 is");
        for (int delay = 1; delay <= 3; delay++) {
            // The first signal is missing at first: the lead is as long as it would be under way.
            PulseMeadow x = Meadows.beaters(27, 0, 60, 0);
            for (int quarter = 0; quarter < 4; quarter++) {
                x.answer(1, quarter, 0);
            }
            x.link(0, 1, delay, 1);
            if (delay == 1) {
                DUE.is(false, x.locks(0, 1, 37));
            } else {
                DUE.fails(Due.ARITHMETIC, () -> x.locks(0, 1, 37));
            }
            DUE.is(true, x.locks(0, 1, 27));
        }
        DUE.is(false, Meadows.beaters(27, 0, 60, 0).locks(0, 1, 37));
        DUE.fails(Due.ARITHMETIC, () -> Meadows.beaters(77, 0, 60, 0).locks(0, 1, 13));
        DUE.fails(Due.ARITHMETIC, () -> Meadows.beaters(91, 0, 60, 0).locks(0, 1, 11));
        DUE.is(false, Meadows.beaters(99, 0, 60, 0).locks(0, 1, 90));
    }

    private static void periodsOfATongue() {
        DUE.promise(26, "for how many periods, from 2 to 99, two beaters lock");
        for (int period = 2; period <= 99; period++) {
            DUE.is(1, Meadows.beaters(period, period - 1, 99, 98).tongue(0, 1));
            DUE.is(1, Meadows.beaters(99, 98, period, 0).tongue(1, 0));
        }
        // Each of the second one's periods counts, its own of now like any other.
        PulseMeadow x = Meadows.beaters(12, 5, 9, 3);
        x.link(0, 1, 2, 4);
        x.link(1, 0, 3, 1);
        for (int turn = 0; turn < 2; turn++) {
            int due = 0;
            for (int period = 2; period <= 99; period++) {
                due += locksIn(x, turn, period) ? 1 : 0;
            }
            DUE.is(due, x.tongue(turn, 1 - turn));
            DUE.is(true, due > 1);
        }
    }

    private static boolean locksIn(PulseMeadow x, int first, int period) {
        try {
            return x.locks(first, 1 - first, period);
        } catch (ArithmeticException e) {
            return false;
        }
    }

    private static void tooLongOnesAside() {
        DUE.promise(26, "those whose way is too long aside");
        PulseMeadow x = Meadows.beaters(97, 0, 50, 0);
        DUE.fails(Due.ARITHMETIC, () -> x.locks(0, 1, 98));
        DUE.fails(Due.ARITHMETIC, () -> x.locks(0, 1, 96));
        DUE.is(1, x.tongue(0, 1));
        // No period at all is left: the first one never flashes while the second one does.
        PulseMeadow held = Meadows.held();
        for (int i = 0; i < 40; i++) {
            held.link(1, 0, 1, 9);
        }
        int due = 0;
        for (int period = 2; period <= 99; period++) {
            try {
                due += held.locks(0, 1, period) ? 1 : 0;
            } catch (ArithmeticException e) {
                continue;
            }
        }
        DUE.is(due, held.tongue(0, 1));
        DUE.is(true, due < 98);
    }

    /** Two beaters with all that can be told of them, at these places. */
    private static PulseMeadow twoAt(int place, int other) {
        PulseMeadow x = new PulseMeadow();
        x.beater(place, 11, 4, 2);
        x.beater(other, 9, 6, 1);
        int[] answers = {2, -1, 1, -2};
        for (int quarter = 0; quarter < 4; quarter++) {
            x.answer(place, quarter, answers[quarter]);
            x.answer(other, quarter, answers[3 - quarter]);
        }
        x.link(place, other, 3, 2);
        x.link(other, place, 4, 1);
        int third = 0;
        while (third == place || third == other) {
            third++;
        }
        x.link(place, third, 1, 5);
        x.link(third, other, 1, 5);
        return x;
    }

    private static String allOf(PulseMeadow x, int place, int other) {
        StringBuilder text = new StringBuilder();
        for (int phase = 0; phase < 9; phase++) {
            text.append(x.map(place, other, phase)).append(' ');
        }
        for (int period = 2; period < 30; period++) {
            text.append(x.locks(place, other, period)).append(' ');
        }
        return text.append(x.tongue(place, other)).toString();
    }

    private static void pairsAtAllPlaces() {
        DUE.promise(24, "two beaters alone, at whatever places they are, 0 to 15");
        String due = allOf(twoAt(1, 2), 1, 2);
        for (int place = 0; place < 16; place++) {
            for (int other = 0; other < 16; other++) {
                if (other != place) {
                    DUE.is(due, allOf(twoAt(place, other), place, other));
                }
            }
        }
    }

    private static void nothingIsLeftBehind() {
        DUE.promise(24, "no signal is under way, whatever was asked just ahead of it, in whichever tick");
        PulseMeadow x = twoAt(0, 15);
        String due = maps(twoAt(0, 15));
        for (int tick = 0; tick < 40; tick++) {
            DUE.is(true, x.strip(0) >= 0);
            DUE.is(due, maps(x));
            x.locks(15, 0, 7);
            DUE.is(due, maps(x));
            x.run(1);
        }
    }

    private static String maps(PulseMeadow x) {
        StringBuilder text = new StringBuilder();
        for (int phase = 0; phase < 9; phase++) {
            text.append(x.map(0, 15, phase)).append(' ');
        }
        return text.toString();
    }

    private static void nothingOfNowChanges() {
        DUE.promise(24, "nothing of now changes by maps, locking and tongues");
        PulseMeadow x = Meadows.few();
        x.map(0, 1, 6);
        x.map(4, 1, 0);
        x.locks(0, 4, 2);
        x.locks(4, 1, 99);
        x.tongue(1, 0);
        DUE.is(Told.of(Meadows.few()), Told.of(x));
        PulseMeadow y = Meadows.few();
        int cycle = y.cycle();
        y.tongue(0, 4);
        DUE.is(cycle, y.cycle());
        // Nor does one leave anything behind for the next one.
        DUE.is(Meadows.few().map(0, 4, 5), y.map(0, 4, 5));
        DUE.is(Meadows.few().locks(1, 0, 12), y.locks(1, 0, 12));
        DUE.is(Meadows.few().tongue(4, 1), y.tongue(4, 1));
    }
}
