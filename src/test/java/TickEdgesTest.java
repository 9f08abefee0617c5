/** Promises 10 to 14, 29 and 30: each sentence that names a boundary, for what a tick does, and noise. */
public final class TickEdgesTest {
    private static final Due DUE = new Due();

    public static void main(String[] args) {
        leastAndGreatestRuns();
        quarterOfEachPhase();
        quietOrNot();
        notBelowZero();
        periodOrMore();
        summedUpFirst();
        manyAtOnce();
        asLateAsTheDelay();
        ifABeaterIsThereThen();
        byWhatIsSoAhead();
        ticksPassed();
        flashesSincePut();
        lastFlash();
        underWay();
        leastAndGreatestNoise();
        lessThanTheNoise();
        noiseAtTheTop();
        lotsInOrder();
        seedsAtTheEdges();
        modulusGoesRound();
        DUE.end();
    }

    private static void leastAndGreatestRuns() {
        DUE.promise(10, "run takes 1 to 500 ticks");
        PulseMeadow x = Meadows.beaters(2, 1);
        DUE.is(1, x.run(1));
        DUE.is(250, x.run(500));
        DUE.fails(Due.ARGUMENT, () -> x.run(0));
        DUE.fails(Due.ARGUMENT, () -> x.run(-1));
        DUE.fails(Due.ARGUMENT, () -> x.run(501));
        DUE.is(501, x.tick());
        DUE.is(251, x.flashes(0));
        PulseMeadow full = new PulseMeadow();
        for (int place = 0; place < 16; place++) {
            full.beater(place, 2, 1, 0);
        }
        DUE.is(16, full.run(1));
        DUE.is(0, full.run(1));
        DUE.is(4000, full.run(500));
        PulseMeadow none = new PulseMeadow();
        DUE.is(0, none.run(500));
        DUE.is(500, none.tick());
    }

    /** The phase 1 tick behind one at which a sum of 1 came, the answer of that quarter alone being one. */
    private static int phaseBehind(int period, int phase, int quarter, int by) {
        PulseMeadow x = pulledAt(period, phase, 0, 1);
        for (int i = 0; i < 4; i++) {
            x.answer(1, i, i == quarter ? by : 0);
        }
        x.run(1);
        return x.phase(1);
    }

    /** The beater at 1 has that phase as a sum comes to it in the next tick. */
    private static PulseMeadow pulledAt(int period, int phase, int quiet, int sum) {
        PulseMeadow x = new PulseMeadow();
        x.beater(0, 99, 98, 0);
        for (int left = sum; left > 0; left -= 9) {
            x.link(0, 1, 1, Math.min(left, 9));
        }
        x.run(1);
        x.beater(1, period, phase, quiet);
        return x;
    }

    private static void quarterOfEachPhase() {
        DUE.promise(10, "the quarter of a phase is 4 times it, divided by the period, cut");
        for (int period = 2; period <= 99; period++) {
            for (int phase = 0; phase < period; phase++) {
                int by = phase == 0 ? 1 : -1;
                int pulled = phase + by + 1;
                for (int quarter = 0; quarter < 4; quarter++) {
                    int behind = quarter == 4 * phase / period ? pulled : phase + 1;
                    DUE.is(behind >= period ? 0 : behind, phaseBehind(period, phase, quarter, by));
                }
            }
        }
    }

    private static void quietOrNot() {
        DUE.promise(10, "a beater whose phase is below its quiet time does not heed signals");
        for (int quiet = 0; quiet < 20; quiet++) {
            for (int phase = 0; phase < 20; phase++) {
                PulseMeadow x = pulledAt(20, phase, quiet, 9);
                for (int i = 0; i < 4; i++) {
                    x.answer(1, i, 9);
                }
                DUE.is(phase >= quiet || phase == 19 ? 1 : 0, x.run(1));
                DUE.is(phase >= quiet || phase == 19 ? 0 : phase + 1, x.phase(1));
                // What was not heeded is gone.
                DUE.is(0, x.waiting(1));
            }
        }
    }

    private static void notBelowZero() {
        DUE.promise(10, "a phase is pulled not below 0");
        for (int phase = 0; phase < 12; phase++) {
            for (int sum : new int[] {1, 2, 3, 11, 12, 13, 60, 540}) {
                PulseMeadow x = pulledAt(12, phase, 0, sum);
                for (int i = 0; i < 4; i++) {
                    x.answer(1, i, -1);
                }
                x.run(1);
                DUE.is(sum > phase ? 1 : (phase - sum + 1) % 12, x.phase(1));
            }
        }
    }

    private static void periodOrMore() {
        DUE.promise(10, "each beater whose phase is its period or more flashes: its phase is 0");
        for (int phase = 0; phase < 12; phase++) {
            for (int sum : new int[] {0, 1, 9, 10, 11, 12, 23, 24, 25, 540}) {
                PulseMeadow x = pulledAt(12, phase, 0, sum);
                boolean flashes = phase + sum + 1 >= 12;
                DUE.is(flashes ? 1 : 0, x.run(1));
                DUE.is(flashes ? 0 : phase + sum + 1, x.phase(1));
                DUE.is(flashes ? 1 : 0, x.flashes(1));
                DUE.is(flashes ? 2 : 0, x.last(1));
            }
        }
        // An answer of 0 leaves the phase.
        PulseMeadow x = pulledAt(12, 4, 0, 540);
        x.answer(1, 1, 0);
        x.run(1);
        DUE.is(5, x.phase(1));
    }

    private static void summedUpFirst() {
        DUE.promise(10, "the strengths of all signals that come in this tick are summed up");
        // From two beaters, sent in two ticks; by parts the second one would come in another quarter.
        PulseMeadow x = new PulseMeadow();
        x.beater(0, 50, 49, 0);
        x.beater(1, 50, 48, 0);
        x.beater(2, 40, 7, 0);
        x.answer(2, 0, 2);
        x.answer(2, 1, -9);
        x.link(0, 2, 2, 1);
        x.link(1, 2, 1, 2);
        x.run(2);
        DUE.is(9, x.phase(2));
        DUE.is(3, x.waiting(2));
        x.run(1);
        DUE.is(9 + 2 * 3 + 1, x.phase(2));
        // The answer is that of the phase ahead of the tick, not of the one behind it.
        PulseMeadow y = pulledAt(40, 9, 0, 1);
        y.answer(1, 1, 9);
        y.run(1);
        DUE.is(11, y.phase(1));
        PulseMeadow z = pulledAt(40, 10, 0, 1);
        z.answer(1, 1, 9);
        z.run(1);
        DUE.is(20, z.phase(1));
    }

    private static void manyAtOnce() {
        DUE.promise(10, "60 links, each of strength 9, in one tick, at the greatest and the least answer");
        for (int by : new int[] {9, -9}) {
            PulseMeadow x = pulledAt(99, 97, 0, 540);
            x.answer(1, 3, by);
            DUE.fails(Due.STATE, () -> x.link(0, 1, 1, 9));
            DUE.is(by > 0 ? 1 : 0, x.run(1));
            DUE.is(by > 0 ? 0 : 1, x.phase(1));
        }
        PulseMeadow x = pulledAt(99, 97, 98, 540);
        DUE.is(0, x.run(1));
        DUE.is(98, x.phase(1));
    }

    private static void asLateAsTheDelay() {
        DUE.promise(10, "a signal comes as many ticks later as the delay");
        for (int delay = 1; delay <= 30; delay++) {
            PulseMeadow x = Meadows.beaters(99, 98, 99, 0);
            x.link(0, 1, delay, 7);
            x.run(delay);
            DUE.is(7, x.waiting(1));
            DUE.is(delay, x.phase(1));
            x.run(1);
            DUE.is(0, x.waiting(1));
            DUE.is(delay + 8, x.phase(1));
            x.run(40);
            DUE.is(delay + 48, x.phase(1));
        }
    }

    private static void ifABeaterIsThereThen() {
        DUE.promise(10, "a signal comes if a beater is there then");
        for (int put = 0; put <= 8; put++) {
            PulseMeadow x = Meadows.beaters(99, 98);
            x.link(0, 6, 5, 3);
            if (put == 0) {
                x.beater(6, 99, 0, 0);
            }
            for (int tick = 1; tick <= 8; tick++) {
                x.run(1);
                if (tick == put) {
                    x.beater(6, 99, 0, 0);
                    DUE.is(put < 6 ? 3 : 0, x.waiting(6));
                }
            }
            // It comes in tick 6: whoever is put behind that never has it.
            DUE.is(8 - put + (put < 6 ? 3 : 0), x.phase(6));
        }
    }

    private static void byWhatIsSoAhead() {
        DUE.promise(10, "all of a tick is by what is so ahead of it for all beaters");
        // Who flashes pulls nobody in that tick, neither those before it nor those behind it.
        for (int flashing = 0; flashing < 3; flashing++) {
            PulseMeadow x = Meadows.beaters(9, flashing == 0 ? 8 : 7, 9, flashing == 1 ? 8 : 7, 9, flashing == 2 ? 8 : 7);
            x.net('a', 1, 9);
            DUE.is(1, x.run(1));
            for (int place = 0; place < 3; place++) {
                DUE.is(place == flashing ? 0 : 8, x.phase(place));
                DUE.is(place == flashing ? 0 : 9, x.waiting(place));
            }
            DUE.is(2, x.run(1));
            DUE.is(1, x.phase(flashing));
            DUE.is(18, x.waiting(flashing));
        }
    }

    private static void ticksPassed() {
        DUE.promise(11, "the tick counts from 0, and only as run lets ticks pass");
        PulseMeadow x = Meadows.few();
        DUE.is(16, x.tick());
        x.sway(500);
        x.strip(0);
        x.cycle();
        x.map(0, 1, 0);
        x.beater(0, 9, 0, 0);
        DUE.is(16, x.tick());
        x.run(1);
        DUE.is(17, x.tick());
        x.run(500);
        DUE.is(517, x.tick());
        DUE.fails(Due.ARGUMENT, () -> x.run(501));
        DUE.is(517, x.tick());
        PulseMeadow y = new PulseMeadow();
        // The last of the 512 calls that an object is used for.
        for (int i = 1; i <= 511; i++) {
            y.run(500);
        }
        DUE.is(255500, y.tick());
    }

    private static void flashesSincePut() {
        DUE.promise(12, "flashes are counted since the beater was put");
        PulseMeadow x = Meadows.beaters(2, 0, 2, 0);
        DUE.is(0, x.flashes(0));
        x.run(1);
        DUE.is(0, x.flashes(0));
        x.run(1);
        DUE.is(1, x.flashes(0));
        x.run(500);
        DUE.is(251, x.flashes(0));
        x.beater(0, 2, 1, 0);
        DUE.is(0, x.flashes(0));
        DUE.is(251, x.flashes(1));
        x.run(1);
        DUE.is(1, x.flashes(0));
        DUE.is(251, x.flashes(1));
        x.period(0, 99);
        x.push(0, 98);
        DUE.is(1, x.flashes(0));
        PulseMeadow y = Meadows.beaters(2, 1);
        for (int i = 0; i < 500; i++) {
            y.run(500);
        }
        DUE.is(125000, y.flashes(0));
    }

    private static void lastFlash() {
        DUE.promise(13, "the first tick is 1; 0 if it did not flash since it was put");
        PulseMeadow x = Meadows.beaters(2, 1, 99, 0);
        DUE.is(0, x.last(0));
        x.run(1);
        DUE.is(1, x.last(0));
        DUE.is(0, x.last(1));
        x.run(1);
        DUE.is(1, x.last(0));
        x.run(498);
        DUE.is(499, x.last(0));
        DUE.is(495, x.last(1));
        x.beater(1, 99, 98, 0);
        DUE.is(0, x.last(1));
        x.run(1);
        DUE.is(501, x.last(1));
        // In the first tick it may have been pulled to flash, by noise too.
        PulseMeadow y = Meadows.beaters(9, 7);
        y.noise(99);
        y.seed(1);
        DUE.is(1, y.run(1));
        DUE.is(1, y.last(0));
    }

    private static void underWay() {
        DUE.promise(14, "all strengths that are under way to a beater, to it alone");
        PulseMeadow x = Meadows.beaters(2, 1, 99, 0, 99, 0);
        x.link(0, 1, 30, 9);
        x.link(0, 2, 1, 1);
        DUE.is(0, x.waiting(1));
        for (int tick = 1; tick <= 30; tick++) {
            x.run(1);
            DUE.is(9 * ((tick + 1) / 2), x.waiting(1));
            DUE.is(tick % 2, x.waiting(2));
            DUE.is(0, x.waiting(0));
        }
        x.cut(0);
        for (int tick = 31; tick <= 60; tick++) {
            DUE.is(9 * ((61 - tick) / 2), x.waiting(1));
            x.run(1);
        }
        DUE.is(0, x.waiting(1));
        // What is under way to an empty place waits for the one that is put there.
        PulseMeadow y = Meadows.beaters(50, 49);
        y.link(0, 15, 3, 8);
        y.run(3);
        DUE.fails(Due.NO_ELEMENT, () -> y.waiting(15));
        y.beater(15, 50, 0, 0);
        DUE.is(8, y.waiting(15));
        y.run(1);
        DUE.is(0, y.waiting(15));
    }

    private static void leastAndGreatestNoise() {
        DUE.promise(29, "noise is 0 to 99, 0 at first");
        PulseMeadow x = Meadows.beaters(99, 0);
        DUE.is(0, x.noise(1));
        DUE.is(1, x.noise(99));
        DUE.fails(Due.ARGUMENT, () -> x.noise(100));
        DUE.fails(Due.ARGUMENT, () -> x.noise(-1));
        DUE.is(99, x.noise(0));
        DUE.is(0, x.noise(0));
        // Without noise no lot is drawn, and nothing is 1 more.
        x.run(50);
        DUE.is(50, x.phase(0));
        DUE.is(1, x.seed(1));
        // As there is noise no more, ways are answered again.
        x.noise(1);
        DUE.fails(Due.UNSUPPORTED, () -> x.cycle());
        x.noise(0);
        DUE.is(99, x.cycle());
    }

    private static void lessThanTheNoise() {
        DUE.promise(29, "if z modulo 100 is less than the noise, the phase is 1 more");
        boolean[] rests = new boolean[100];
        for (int seed = 1; seed < 600; seed++) {
            int rest = (int) (seed * 48271L % 2147483647L % 100);
            rests[rest] = true;
            for (int noise : new int[] {rest - 1, rest, rest + 1, 1, 99}) {
                if (noise >= 1 && noise <= 99) {
                    PulseMeadow x = Meadows.beaters(9, 0);
                    x.seed(seed);
                    x.noise(noise);
                    x.run(1);
                    DUE.is(rest < noise ? 2 : 1, x.phase(0));
                }
            }
        }
        for (boolean seen : rests) {
            DUE.is(true, seen);
        }
    }

    private static void noiseAtTheTop() {
        DUE.promise(29, "noise is heeded ahead of the flash");
        // 48271 modulo 100 is 71.
        for (int phase = 0; phase < 7; phase++) {
            PulseMeadow x = Meadows.beaters(7, phase);
            x.noise(72);
            DUE.is(phase >= 5 ? 1 : 0, x.run(1));
            DUE.is(phase >= 5 ? 0 : phase + 2, x.phase(0));
            PulseMeadow y = Meadows.beaters(7, phase);
            y.noise(71);
            DUE.is(phase == 6 ? 1 : 0, y.run(1));
            DUE.is(phase == 6 ? 0 : phase + 1, y.phase(0));
        }
        // Quiet times do not hold noise off, and it is 1 more behind the pull, not ahead of it.
        PulseMeadow x = new PulseMeadow();
        x.beater(3, 9, 0, 8);
        x.noise(72);
        x.run(1);
        DUE.is(2, x.phase(3));
        PulseMeadow y = pulledAt(40, 9, 0, 1);
        y.answer(1, 1, 9);
        y.seed(1);
        y.noise(72);
        y.beater(0, 99, 0, 0);
        y.run(1);
        DUE.is(2, y.phase(0));
        DUE.is(48271L * 48271 % 2147483647 % 100 < 72 ? 12 : 11, y.phase(1));
    }

    private static void lotsInOrder() {
        DUE.promise(29, "in each tick a lot for each beater, in order");
        for (int beaters = 0; beaters <= 16; beaters++) {
            PulseMeadow x = new PulseMeadow();
            for (int i = 0; i < beaters; i++) {
                x.beater(15 - i, 99, 0, 98);
            }
            x.noise(37);
            x.seed(2000 + beaters);
            long z = 2000 + beaters;
            int[] due = new int[16];
            for (int tick = 0; tick < 40; tick++) {
                for (int place = 16 - beaters; place < 16; place++) {
                    z = z * 48271L % 2147483647L;
                    due[place] += z % 100 < 37 ? 2 : 1;
                }
            }
            x.run(40);
            for (int place = 16 - beaters; place < 16; place++) {
                DUE.is(due[place], x.phase(place));
            }
            DUE.is((int) z, x.seed(1));
        }
    }

    private static void seedsAtTheEdges() {
        DUE.promise(30, "z is 1 to 2147483646, 1 at first");
        PulseMeadow x = new PulseMeadow();
        DUE.is(1, x.seed(2147483646));
        DUE.fails(Due.ARGUMENT, () -> x.seed(2147483647));
        DUE.fails(Due.ARGUMENT, () -> x.seed(0));
        DUE.fails(Due.ARGUMENT, () -> x.seed(-1));
        DUE.fails(Due.ARGUMENT, () -> x.seed(Integer.MIN_VALUE));
        DUE.is(2147483646, x.seed(1));
        DUE.is(1, x.seed(1));
    }

    private static void modulusGoesRound() {
        DUE.promise(30, "z becomes z times 48271 modulo 2147483647");
        int[][] steps = {
            {1, 48271}, {44488, 2147480248}, {44489, 44872}, {2147483646, 2147435376}, {2147483645, 2147387105}, {1073741824, 1073765959},
        };
        for (int[] step : steps) {
            PulseMeadow x = Meadows.beaters(9, 0);
            x.noise(1);
            x.seed(step[0]);
            x.run(1);
            DUE.is((int) (step[0] * 48271L % 2147483647L), x.seed(1));
            DUE.is(step[1], (int) (step[0] * 48271L % 2147483647L));
        }
        // The 10000th z from 1 on is known: 16 beaters draw it in 625 ticks.
        PulseMeadow x = Meadows.row(16, 99);
        x.noise(99);
        x.run(500);
        x.run(125);
        DUE.is(399268537, x.seed(1));
    }
}
