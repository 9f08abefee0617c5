/** Promises 15 to 23, 28 and 39 to 42: what comes from a state on. */
public final class WaysTest {
    private static final Due DUE = new Due();

    public static void main(String[] args) {
        strip();
        cycleAndLead();
        longestWays();
        signalsInStates();
        beats();
        inStep();
        groups();
        islands();
        order();
        leastPush();
        leastPushOfLikeOnes();
        stepShare();
        meanPhase();
        checksum();
        isTrue();
        askingChangesNothing();
        changesShow();
        DUE.end();
    }

    private static PulseMeadow beaters(int... periodsAndPhases) {
        PulseMeadow x = new PulseMeadow();
        for (int i = 0; i < periodsAndPhases.length; i += 2) {
            x.beater(i / 2, periodsAndPhases[i], periodsAndPhases[i + 1], 0);
        }
        return x;
    }

    private static void strip() {
        DUE.promise(15, "strip");
        PulseMeadow x = beaters(2, 1, 30, 0, 31, 0, 97, 0);
        x.beater(4, 98, 0, 0);
        DUE.is(0x15555555, x.strip(0));
        DUE.is(1 << 29, x.strip(1));
        DUE.is(0, x.strip(2));
        DUE.is(0, x.tick());
        DUE.fails(Due.BOUNDS, () -> x.strip(-1));
        DUE.fails(Due.NO_ELEMENT, () -> x.strip(16));
        x.noise(1);
        DUE.fails(Due.UNSUPPORTED, () -> x.strip(0));
        DUE.fails(Due.NO_ELEMENT, () -> x.strip(5));
    }

    private static void cycleAndLead() {
        DUE.promise(16, "cycle");
        PulseMeadow none = new PulseMeadow();
        DUE.is(1, none.cycle());
        PulseMeadow x = beaters(6, 1, 4, 0);
        DUE.is(12, x.cycle());
        DUE.promise(17, "lead");
        DUE.is(0, none.lead());
        DUE.is(0, x.lead());
        PulseMeadow y = beaters(5, 0, 9, 3);
        y.link(0, 1, 7, 1);
        DUE.is(15, y.cycle());
        DUE.is(true, y.lead() > 0);
        y.run(y.lead() - 1);
        DUE.is(1, y.lead());
        y.run(1);
        DUE.is(0, y.lead());
        for (PulseMeadow z : new PulseMeadow[] {none, x, y}) {
            z.noise(1);
            DUE.fails(Due.UNSUPPORTED, () -> z.cycle());
            DUE.fails(Due.UNSUPPORTED, () -> z.lead());
            z.noise(0);
            DUE.is(0, z.lead());
        }
    }

    private static void longestWays() {
        DUE.promise(16, "cycle, its longest");
        DUE.is(990, beaters(99, 3, 90, 0, 10, 4).cycle());
        DUE.is(992, beaters(32, 0, 31, 0).cycle());
        PulseMeadow x = beaters(91, 0, 11, 0);
        DUE.fails(Due.ARITHMETIC, () -> x.cycle());
        DUE.fails(Due.ARITHMETIC, () -> x.lead());
        DUE.fails(Due.ARITHMETIC, () -> x.beats(0));
        DUE.fails(Due.ARITHMETIC, () -> x.inStep(0, 1));
        DUE.fails(Due.ARITHMETIC, () -> x.groups());
        DUE.fails(Due.ARITHMETIC, () -> x.groupOf(0));
        DUE.fails(Due.ARITHMETIC, () -> x.islands());
        DUE.fails(Due.ARITHMETIC, () -> x.order(-1));
        DUE.fails(Due.ARITHMETIC, () -> x.stepShare());
        DUE.is(1 << 10 | 1 << 21, x.strip(1));
        DUE.is(true, x.isTrue());
        // A signal that nobody heeds makes a lead of its own: 992 ticks and 8 are 1000.
        DUE.is(8, leadOf(8));
        DUE.is(-1, leadOf(9));
    }

    /** The lead of two beaters with the cycle 992, a signal on its way to a quiet one; -1 if too long. */
    private static int leadOf(int ticks) {
        PulseMeadow x = new PulseMeadow();
        x.beater(0, 32, 31, 0);
        x.beater(1, 31, 0, 30);
        x.link(0, 1, ticks, 1);
        x.run(1);
        x.cut(0);
        try {
            return x.cycle() == 992 ? x.lead() : -2;
        } catch (ArithmeticException e) {
            return -1;
        }
    }

    private static void signalsInStates() {
        DUE.promise(17, "lead, signals");
        PulseMeadow x = new PulseMeadow();
        x.beater(0, 4, 3, 0);
        x.link(0, 9, 20, 1);
        x.run(1);
        // Under way to a place without a beater: no part of the state.
        DUE.is(0, x.lead());
        x.beater(9, 4, 3, 3);
        x.cut(0);
        DUE.is(20, x.lead());
        DUE.is(4, x.cycle());
        // The phases return before the state does.
        PulseMeadow y = beaters(2, 0, 2, 1);
        y.answer(1, 0, 0);
        y.answer(1, 2, 0);
        y.link(0, 1, 5, 1);
        DUE.is(2, y.cycle());
        DUE.is(5, y.lead());
        // The longest delay: but for the signal that just goes out, the state is that of now.
        PulseMeadow z = new PulseMeadow();
        z.beater(0, 40, 0, 0);
        z.beater(1, 40, 0, 39);
        z.link(0, 1, 30, 1);
        DUE.is(40, z.cycle());
        DUE.is(30, z.lead());
    }

    private static void beats() {
        DUE.promise(18, "beats");
        PulseMeadow x = beaters(6, 0, 4, 1, 2, 1);
        DUE.is(2, x.beats(0));
        DUE.is(3, x.beats(1));
        DUE.is(6, x.beats(2));
        DUE.fails(Due.BOUNDS, () -> x.beats(20));
        DUE.fails(Due.NO_ELEMENT, () -> x.beats(3));
        x.noise(99);
        DUE.fails(Due.NO_ELEMENT, () -> x.beats(19));
        DUE.fails(Due.UNSUPPORTED, () -> x.beats(0));
    }

    /** A beater that one or more others hold below its period for ever. */
    private static PulseMeadow held(int... places) {
        PulseMeadow x = new PulseMeadow();
        x.beater(0, 2, 1, 0);
        for (int place : places) {
            x.beater(place, 40, 0, 0);
            for (int i = 0; i < 4; i++) {
                x.answer(place, i, -9);
            }
            x.link(0, place, 1, 9);
        }
        return x;
    }

    private static void inStep() {
        DUE.promise(19, "inStep");
        PulseMeadow x = beaters(6, 2, 6, 2, 6, 3, 3, 2);
        DUE.is(true, x.inStep(0, 1));
        DUE.is(true, x.inStep(1, 1));
        DUE.is(false, x.inStep(0, 2));
        DUE.is(false, x.inStep(0, 3));
        DUE.fails(Due.BOUNDS, () -> x.inStep(0, 20));
        DUE.fails(Due.BOUNDS, () -> x.inStep(9, -1));
        DUE.fails(Due.BOUNDS, () -> x.inStep(-1, 9));
        DUE.fails(Due.NO_ELEMENT, () -> x.inStep(4, 0));
        DUE.fails(Due.NO_ELEMENT, () -> x.inStep(0, 16));
        x.noise(1);
        DUE.fails(Due.NO_ELEMENT, () -> x.inStep(0, 4));
        DUE.fails(Due.UNSUPPORTED, () -> x.inStep(0, 1));
        PulseMeadow y = held(1, 2);
        DUE.is(0, y.beats(1));
        DUE.is(true, y.inStep(1, 2));
        DUE.is(false, y.inStep(0, 1));
    }

    private static void groups() {
        DUE.promise(20, "groups");
        PulseMeadow x = beaters(6, 0, 6, 1, 6, 0, 6, 2, 6, 1);
        DUE.is(3, x.groups());
        DUE.is(0, new PulseMeadow().groups());
        DUE.is(1, beaters(5, 1).groups());
        DUE.promise(21, "groupOf");
        DUE.is(0, x.groupOf(0));
        DUE.is(1, x.groupOf(1));
        DUE.is(0, x.groupOf(2));
        DUE.is(2, x.groupOf(3));
        DUE.is(1, x.groupOf(4));
        DUE.fails(Due.BOUNDS, () -> x.groupOf(-1));
        DUE.fails(Due.NO_ELEMENT, () -> x.groupOf(5));
        x.noise(1);
        DUE.fails(Due.UNSUPPORTED, () -> x.groups());
        DUE.fails(Due.UNSUPPORTED, () -> x.groupOf(0));
        DUE.fails(Due.NO_ELEMENT, () -> x.groupOf(15));
    }

    private static void islands() {
        DUE.promise(22, "islands");
        DUE.is(0, new PulseMeadow().islands());
        DUE.is(1, beaters(5, 1).islands());
        DUE.is(1, beaters(5, 1, 5, 1, 5, 1).islands());
        DUE.is(2, beaters(5, 1, 5, 2).islands());
        DUE.is(2, beaters(5, 1, 5, 2, 5, 2, 5, 1).islands());
        DUE.is(4, beaters(5, 1, 5, 2, 5, 1, 5, 2).islands());
        DUE.is(3, beaters(5, 1, 5, 1, 5, 2, 5, 3, 5, 1).islands());
        PulseMeadow x = beaters(5, 1);
        x.noise(1);
        DUE.fails(Due.UNSUPPORTED, () -> x.islands());
    }

    private static void order() {
        DUE.promise(23, "order");
        PulseMeadow x = beaters(4, 3, 4, 0, 4, 3, 2, 0);
        int[] due = {0, 2, 3, 1, 3};
        for (int i = 0; i < due.length; i++) {
            DUE.is(due[i], x.order(i));
        }
        DUE.fails(Due.NO_ELEMENT, () -> x.order(5));
        DUE.fails(Due.NO_ELEMENT, () -> x.order(-1));
        DUE.fails(Due.NO_ELEMENT, () -> x.order(Integer.MIN_VALUE));
        DUE.fails(Due.NO_ELEMENT, () -> new PulseMeadow().order(0));
        x.noise(1);
        DUE.fails(Due.UNSUPPORTED, () -> x.order(-1));
        // From the first state that returns on, not from now: in the lead it is 1 that flashes first.
        PulseMeadow y = beaters(5, 0, 5, 4);
        y.link(0, 1, 1, 1);
        DUE.is(1, y.strip(1) & 1);
        DUE.is(true, y.lead() > 0);
        int first = y.order(0);
        y.run(y.lead());
        DUE.is(first, y.order(0));
    }

    private static void leastPush() {
        DUE.promise(28, "leastPush");
        DUE.is(0, beaters(5, 1).leastPush());
        DUE.is(0, beaters(5, 1, 5, 1).leastPush());
        DUE.is(2, beaters(5, 1, 5, 3).leastPush());
        DUE.is(10, beaters(5, 1, 5, 3, 5, 1, 5, 0).leastPush());
        DUE.fails(Due.NO_ELEMENT, () -> beaters(5, 1, 6, 3).leastPush());
        DUE.fails(Due.UNSUPPORTED, () -> new PulseMeadow().leastPush());
        PulseMeadow x = new PulseMeadow();
        for (int i = 0; i < 8; i++) {
            x.beater(15 - i, 20, i, 0);
        }
        DUE.is(0xfe00, x.leastPush());
        x.noise(1);
        DUE.fails(Due.UNSUPPORTED, () -> x.leastPush());
        x.noise(0);
        x.beater(0, 20, 0, 0);
        DUE.fails(Due.UNSUPPORTED, () -> x.leastPush());
        // Without any, two links bring these in step.
        PulseMeadow y = beaters(5, 0, 5, 1);
        y.link(0, 1, 1, 9);
        y.link(1, 0, 1, 9);
        DUE.is(y.groups() == 1, y.leastPush() == 0);
        // One whose way is too long does not bring them in step.
        DUE.fails(Due.NO_ELEMENT, () -> beaters(97, 0, 98, 0).leastPush());
        pushesAcrossPeriods();
    }

    /** A beater gets its period less 1, if the phase of the first one is not below its period. */
    private static void pushesAcrossPeriods() {
        int least = 0;
        for (int phase = 0; phase < 9; phase++) {
            for (int second = 0; second < 5; second++) {
                PulseMeadow x = new PulseMeadow();
                ReferenceMeadow y = new ReferenceMeadow();
                x.beater(4, 9, phase, 0);
                y.beater(4, 9, phase, 0);
                x.beater(6, 5, second, 0);
                y.beater(6, 5, second, 0);
                for (int quarter = 0; quarter < 4; quarter++) {
                    x.answer(6, quarter, quarter == 3 ? -4 : 0);
                    y.answer(6, quarter, quarter == 3 ? -4 : 0);
                }
                for (int delay = 4; delay < 9; delay++) {
                    x.link(4, 6, delay, 1);
                    y.link(4, 6, delay, 1);
                }
                int due = leastOf(y);
                DUE.is(due, leastOf(x));
                least += due > 0 ? 1 : 0;
            }
        }
        DUE.is(true, least > 0);
    }

    private static int leastOf(PulseMeadow x) {
        try {
            return x.leastPush();
        } catch (java.util.NoSuchElementException e) {
            return -1;
        }
    }

    private static int leastOf(ReferenceMeadow x) {
        try {
            return x.leastPush();
        } catch (java.util.NoSuchElementException e) {
            return -1;
        }
    }

    /** Of sets with like many beaters it is the one of the least number. */
    private static void leastPushOfLikeOnes() {
        PulseMeadow x = new PulseMeadow();
        for (int place = 1; place < 4; place++) {
            x.beater(place, 6, place == 1 ? 2 : 0, 0);
        }
        DUE.is(12, x.leastPush());
        x.net('a', 1, 9);
        DUE.is(true, x.leastPush() <= 12);
        ReferenceMeadow y = new ReferenceMeadow();
        for (int place = 1; place < 4; place++) {
            y.beater(place, 6, place == 1 ? 2 : 0, 0);
        }
        y.net('a', 1, 9);
        DUE.is(y.leastPush(), x.leastPush());
    }

    private static void stepShare() {
        DUE.promise(39, "stepShare");
        DUE.is(2f / 3f, beaters(6, 0, 6, 1, 6, 0).stepShare());
        DUE.is(1f, beaters(6, 0).stepShare());
        DUE.is(0.25f, beaters(6, 0, 6, 1, 6, 1, 6, 1).stepShare());
        PulseMeadow x = new PulseMeadow();
        DUE.fails(Due.ARITHMETIC, () -> x.stepShare());
        x.noise(1);
        DUE.fails(Due.UNSUPPORTED, () -> x.stepShare());
    }

    private static void meanPhase() {
        DUE.promise(40, "meanPhase");
        DUE.is(7.0 / 3.0, beaters(6, 5, 6, 0, 6, 2).meanPhase());
        DUE.is(0.0, beaters(6, 0).meanPhase());
        PulseMeadow x = new PulseMeadow();
        DUE.fails(Due.ARITHMETIC, () -> x.meanPhase());
        x.beater(3, 99, 98, 0);
        x.noise(5);
        DUE.is(98.0, x.meanPhase());
    }

    private static void checksum() {
        DUE.promise(41, "checksum");
        PulseMeadow x = beaters(4, 3, 9, 2);
        x.link(0, 1, 5, 6);
        x.swing(17, -250);
        x.run(1);
        long due = 7;
        for (int part : new int[] {0, 1, 0, 3, 0, 6, Float.floatToIntBits(-0.25f), 1}) {
            due = 31 * due + part;
        }
        DUE.is(due, x.checksum());
    }

    private static void isTrue() {
        DUE.promise(42, "isTrue");
        PulseMeadow x = beaters(4, 3, 9, 2, 7, 1);
        x.net('a', 3, 2);
        DUE.is(true, x.isTrue());
        x.noise(20);
        x.run(77);
        DUE.is(true, x.isTrue());
        DUE.is(true, beaters(97, 0, 98, 0).isTrue());
    }

    private static void askingChangesNothing() {
        DUE.promise(16, "cycle, asked");
        PulseMeadow x = beaters(4, 3, 9, 2, 7, 1);
        x.net('a', 3, 2);
        x.run(5);
        long before = x.checksum();
        x.cycle();
        x.strip(0);
        x.order(1);
        x.map(0, 1, 3);
        x.tongue(2, 1);
        x.locks(1, 2, 30);
        DUE.fails(Due.NO_ELEMENT, () -> x.leastPush());
        x.isTrue();
        DUE.is(before, x.checksum());
        PulseMeadow y = beaters(4, 3, 9, 2, 7, 1);
        y.net('a', 3, 2);
        y.run(25);
        x.run(20);
        DUE.is(y.checksum(), x.checksum());
    }

    /** Whatever a way goes by shows at once in what is asked about it. */
    private static void changesShow() {
        DUE.promise(16, "cycle, changed");
        PulseMeadow x = beaters(6, 0);
        DUE.is(6, x.cycle());
        x.period(0, 7);
        DUE.is(7, x.cycle());
        x.beater(1, 5, 0, 0);
        DUE.is(35, x.cycle());
        x.beater(1, 7, 3, 0);
        DUE.is(2, x.groups());
        x.push(1, -3);
        DUE.is(1, x.groups());
        x.run(6);
        DUE.is(0, x.order(0));
        x.link(0, 1, 1, 1);
        DUE.is(2, x.groups());
        x.answer(1, 0, 0);
        DUE.is(1, x.groups());
        x.answer(1, 0, 1);
        DUE.is(2, x.groups());
        x.cut(0);
        DUE.is(1, x.groups());
        x.net('l', 1, 1);
        DUE.is(2, x.groups());
    }
}
