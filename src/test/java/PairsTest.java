/** Promises 24 to 26: two beaters alone. */
public final class PairsTest {
    private static final Due DUE = new Due();

    public static void main(String[] args) {
        map();
        mapAlone();
        mapTooLong();
        locks();
        tongue();
        DUE.end();
    }

    private static void map() {
        DUE.promise(24, "map");
        PulseMeadow x = new PulseMeadow();
        x.beater(2, 10, 7, 0);
        x.beater(5, 8, 1, 0);
        for (int phase = 0; phase < 8; phase++) {
            DUE.is((phase + 10) % 8, x.map(2, 5, phase));
        }
        for (int phase = 0; phase < 10; phase++) {
            DUE.is((phase + 8) % 10, x.map(5, 2, phase));
        }
        x.link(2, 5, 1, 3);
        x.link(5, 2, 2, 1);
        // 5 flashes in tick 4, its signal comes in tick 6, and so 2 flashes in tick 9.
        DUE.is(5, x.map(2, 5, 4));
        DUE.fails(Due.BOUNDS, () -> x.map(20, 20, 0));
        DUE.fails(Due.BOUNDS, () -> x.map(2, -1, 0));
        DUE.fails(Due.ARGUMENT, () -> x.map(3, 3, 0));
        DUE.fails(Due.ARGUMENT, () -> x.map(16, 16, 0));
        DUE.fails(Due.NO_ELEMENT, () -> x.map(2, 3, -1));
        DUE.fails(Due.NO_ELEMENT, () -> x.map(19, 2, -1));
        DUE.fails(Due.ARITHMETIC, () -> x.map(2, 5, 8));
        DUE.fails(Due.ARITHMETIC, () -> x.map(2, 5, -1));
        DUE.is(7, x.phase(2));
        DUE.is(1, x.phase(5));
    }

    /** Neither others, nor noise, nor signals under way count. */
    private static void mapAlone() {
        PulseMeadow x = new PulseMeadow();
        x.beater(0, 10, 9, 0);
        x.beater(1, 8, 0, 0);
        x.beater(2, 2, 0, 0);
        x.link(0, 1, 1, 2);
        x.link(2, 0, 1, 9);
        x.link(2, 1, 1, 9);
        x.run(1);
        x.noise(99);
        DUE.is(2, x.map(0, 1, 0));
        DUE.is(1, x.seed(1));
        DUE.is(2, x.waiting(1));
        x.noise(0);
        // Nor does what was asked just before leave signals.
        for (int i = 0; i < 30; i++) {
            x.strip(1);
            DUE.is(2, x.map(0, 1, 0));
            DUE.is(2, x.map(0, 1, 0));
            x.locks(0, 1, 9);
            DUE.is(2, x.map(0, 1, 0));
            x.run(1);
        }
    }

    /** The second one holds the first one back again and again. */
    private static PulseMeadow heldBack(int period) {
        PulseMeadow x = new PulseMeadow();
        x.beater(0, period, 7, 0);
        x.beater(1, 49, 0, 0);
        x.answer(0, 3, -6);
        x.link(1, 0, 1, 8);
        return x;
    }

    private static void mapTooLong() {
        DUE.is((30 + 999) % 49, heldBack(95).map(0, 1, 30));
        // This one flashes in tick 1000.
        DUE.fails(Due.ARITHMETIC, () -> heldBack(96).map(0, 1, 29));
        PulseMeadow x = new PulseMeadow();
        x.beater(0, 50, 0, 0);
        x.beater(1, 2, 0, 0);
        for (int i = 0; i < 4; i++) {
            x.answer(0, i, -9);
        }
        x.link(1, 0, 1, 9);
        DUE.fails(Due.ARITHMETIC, () -> x.map(0, 1, 0));
        DUE.is(0, x.map(1, 0, 0) - 2);
    }

    private static void locks() {
        DUE.promise(25, "locks");
        PulseMeadow x = new PulseMeadow();
        x.beater(0, 10, 3, 0);
        x.beater(1, 20, 15, 15);
        DUE.is(true, x.locks(0, 1, 10));
        DUE.is(false, x.locks(0, 1, 20));
        DUE.is(false, x.locks(0, 1, 5));
        DUE.is(true, x.locks(1, 0, 20));
        x.link(0, 1, 1, 1);
        DUE.fails(Due.BOUNDS, () -> x.locks(0, 20, 1));
        DUE.fails(Due.BOUNDS, () -> x.locks(-1, -1, 1));
        DUE.fails(Due.ARGUMENT, () -> x.locks(3, 3, 5));
        DUE.fails(Due.ARGUMENT, () -> x.locks(0, 4, 1));
        DUE.fails(Due.ARGUMENT, () -> x.locks(0, 1, 100));
        DUE.fails(Due.NO_ELEMENT, () -> x.locks(0, 4, 99));
        DUE.fails(Due.NO_ELEMENT, () -> x.locks(16, 1, 99));
        x.noise(50);
        DUE.is(true, x.locks(0, 1, 10));
        DUE.is(20, x.period(1, 20));
        DUE.is(15, x.phase(1));
        x.beater(2, 97, 0, 0);
        DUE.fails(Due.ARITHMETIC, () -> x.locks(0, 2, 99) || x.locks(1, 2, 99));
        // Once at least: two that hold one another down do not lock.
        PulseMeadow y = new PulseMeadow();
        y.beater(0, 2, 1, 0);
        y.beater(1, 40, 0, 0);
        for (int i = 0; i < 4; i++) {
            y.answer(1, i, -9);
        }
        y.link(0, 1, 1, 9);
        DUE.is(false, y.locks(0, 1, 40));
        DUE.is(false, y.locks(1, 0, 2));
        shorterPeriods();
    }

    /** The phase and the quiet time of the second one become 1 less than its period, if they are not below it. */
    private static void shorterPeriods() {
        // The quiet time 29 becomes 4, and the signal of each 6th tick holds the phase 4 for a tick.
        PulseMeadow x = new PulseMeadow();
        x.beater(0, 6, 0, 0);
        x.beater(1, 30, 3, 29);
        x.answer(1, 3, -1);
        x.link(0, 1, 1, 1);
        DUE.is(false, x.locks(0, 1, 3));
        DUE.is(true, x.locks(0, 1, 5));
        DUE.is(false, x.locks(0, 1, 7));
        DUE.is(30, x.period(1, 30));
        DUE.is(3, x.phase(1));
        for (int lot = 0; lot < 300; lot++) {
            likeOneOfThatPeriod(lot);
        }
    }

    private static PulseMeadow twoByLot(int lot) {
        PulseMeadow x = new PulseMeadow();
        x.beater(0, 5 + lot % 4, lot % 5, 0);
        x.beater(1, 12, 5 + lot % 7, 11 - lot % 5);
        for (int quarter = 0; quarter < 4; quarter++) {
            x.answer(1, quarter, (lot >> quarter) % 4 - 1);
        }
        x.link(0, 1, 1 + lot % 3, 1 + lot % 2);
        x.link(1, 0, 1 + lot % 2, 1 + lot % 3);
        return x;
    }

    private static void likeOneOfThatPeriod(int lot) {
        for (int period = 3; period < 10; period++) {
            PulseMeadow x = twoByLot(lot);
            PulseMeadow y = twoByLot(lot);
            y.period(1, period);
            DUE.is(y.beats(0) == y.beats(1) && y.beats(0) > 0, x.locks(0, 1, period));
        }
    }

    private static void tongue() {
        DUE.promise(26, "tongue");
        PulseMeadow x = new PulseMeadow();
        x.beater(0, 10, 0, 0);
        x.beater(1, 10, 5, 0);
        DUE.is(1, x.tongue(0, 1));
        x.link(0, 1, 1, 2);
        x.link(1, 0, 3, 1);
        int count = 0;
        for (int period = 2; period < 100; period++) {
            try {
                count += x.locks(0, 1, period) ? 1 : 0;
            } catch (ArithmeticException e) {
                continue;
            }
        }
        DUE.is(true, count > 1);
        DUE.is(count, x.tongue(0, 1));
        DUE.fails(Due.BOUNDS, () -> x.tongue(20, 20));
        DUE.fails(Due.BOUNDS, () -> x.tongue(3, -1));
        DUE.fails(Due.ARGUMENT, () -> x.tongue(3, 3));
        DUE.fails(Due.NO_ELEMENT, () -> x.tongue(0, 3));
        DUE.fails(Due.NO_ELEMENT, () -> x.tongue(17, 0));
        x.noise(9);
        DUE.is(count, x.tongue(0, 1));
        // Without a link 99 and 98 come to a way that is too long: it is left aside.
        x.beater(2, 97, 0, 0);
        DUE.is(1, x.tongue(2, 1));
    }
}
