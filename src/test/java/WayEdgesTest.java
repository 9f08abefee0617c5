/** Promises 15 to 23, 28, 39, 40 and 42: each sentence that names a boundary, for what comes from a state on. */
public final class WayEdgesTest {
    private static final Due DUE = new Due();

    public static void main(String[] args) {
        thirtyTicks();
        stripOfEveryTick();
        stripOfWaysTooLong();
        withoutBeaters();
        oneBeater();
        justShortEnough();
        justTooLong();
        cycleOf1000();
        longLeads();
        signalsAsPartOfAState();
        strengthsSummedUp();
        signalsToEmptyPlaces();
        beatsAtTheEdges();
        inStepAtTheEdges();
        groupsAtTheEdges();
        islandsGoingRound();
        orderAtTheEdges();
        noiseAndWays();
        pushesOfOneToEight();
        pushesNowhere();
        setsOfLikeMany();
        fewestNotLeast();
        pushToPeriodLessOne();
        pushesOfLongWays();
        sharesAtTheEdges();
        meanAtTheEdges();
        alwaysTrue();
        changesShowAtOnce();
        askingChangesNothing();
        DUE.end();
    }

    private static void thirtyTicks() {
        DUE.promise(15, "the next 30 ticks as bits, that of the next one being 1");
        for (int ticks = 1; ticks <= 40; ticks++) {
            PulseMeadow x = Meadows.beaters(99, 99 - ticks);
            DUE.is(ticks <= 30 ? 1 << ticks - 1 : 0, x.strip(0));
            DUE.is(99 - ticks, x.phase(0));
            DUE.is(0, x.flashes(0));
        }
        DUE.is(1 | 1 << 29, Meadows.beaters(29, 28).strip(0));
        DUE.is(1, Meadows.beaters(30, 29).strip(0));
        // A signal that is under way counts, and one that goes out in these ticks.
        PulseMeadow x = Meadows.beaters(60, 59, 40, 20);
        x.link(0, 1, 4, 9);
        DUE.is(1 << 10, x.strip(1));
        x.run(1);
        DUE.is(1 << 9, x.strip(1));
    }

    /** A beater of the period 2 that a signal comes to in each tick. */
    private static PulseMeadow everyTick() {
        PulseMeadow x = Meadows.beaters(2, 0, 2, 0, 2, 1);
        x.link(0, 1, 1, 1);
        x.link(2, 1, 1, 1);
        x.run(2);
        return x;
    }

    private static void stripOfEveryTick() {
        DUE.promise(15, "all 30 bits, none beyond");
        DUE.is((1 << 30) - 1, everyTick().strip(1));
        DUE.is(0x15555555, Meadows.beaters(2, 1).strip(0));
        DUE.is(0x2aaaaaaa, Meadows.beaters(2, 0).strip(0));
        PulseMeadow full = Meadows.row(16, 30);
        for (int place = 0; place < 16; place++) {
            DUE.is(1 << 29 - place, full.strip(place));
        }
    }

    private static void stripOfWaysTooLong() {
        DUE.promise(15, "a way that is too long is no matter, noise is");
        PulseMeadow x = Meadows.beaters(97, 96, 98, 70);
        DUE.is(1, x.strip(0));
        DUE.is(1 << 27, x.strip(1));
        x.noise(1);
        DUE.fails(Due.UNSUPPORTED, () -> x.strip(1));
        x.noise(0);
        DUE.is(1 << 27, x.strip(1));
    }

    private static void withoutBeaters() {
        DUE.promise(16, "the cycle is 1 without beaters");
        PulseMeadow x = new PulseMeadow();
        for (int i = 0; i < 3; i++) {
            DUE.is(1, x.cycle());
            DUE.is(0, x.lead());
            DUE.is(0, x.groups());
            DUE.is(0, x.islands());
            DUE.fails(Due.NO_ELEMENT, () -> x.order(0));
            DUE.fails(Due.ARITHMETIC, () -> x.stepShare());
            DUE.is(true, x.isTrue());
            x.link(0, 1, 30, 9);
            x.swing(16 + i, 4);
            x.run(50);
        }
    }

    private static void oneBeater() {
        DUE.promise(16, "the cycle of one beater is its period");
        for (int period = 2; period <= 99; period++) {
            for (int phase : new int[] {0, period - 1}) {
                PulseMeadow x = Meadows.beaters(period, phase);
                DUE.is(period, x.cycle());
                DUE.is(0, x.lead());
                DUE.is(1, x.beats(0));
                DUE.is(1, x.groups());
                DUE.is(0, x.groupOf(0));
                DUE.is(1, x.islands());
                DUE.is(0, x.order(0));
                DUE.is(0, x.leastPush());
                DUE.is(1.0f, x.stepShare());
                DUE.fails(Due.NO_ELEMENT, () -> x.order(1));
            }
        }
    }

    /** The cycle is 999, and the lead the ticks until a signal comes that a quiet beater does not heed. */
    private static PulseMeadow cycle999(int lead) {
        PulseMeadow x = new PulseMeadow();
        x.beater(0, 27, 26, 0);
        x.beater(1, 37, 0, 36);
        if (lead > 0) {
            x.link(0, 1, lead, 1);
        }
        x.run(1);
        if (lead > 0) {
            x.cut(0);
        }
        return x;
    }

    private static void justShortEnough() {
        DUE.promise(16, "lead and cycle of 1000 together are not too long");
        for (int lead = 0; lead <= 1; lead++) {
            PulseMeadow x = cycle999(lead);
            DUE.is(999, x.cycle());
            DUE.is(lead, x.lead());
            DUE.is(37, x.beats(0));
            DUE.is(27, x.beats(1));
            DUE.is(false, x.inStep(0, 1));
            DUE.is(2, x.groups());
            DUE.is(1, x.groupOf(1));
            DUE.is(2, x.islands());
            DUE.is(0, x.order(0));
            // Both were at the phases 0 and 1: the 64th flash is that of 0, its phase being 0 again.
            DUE.is(lead == 0 ? 0 : 1, lead == 0 ? x.order(63) : x.order(62) | x.order(63));
            DUE.fails(Due.NO_ELEMENT, () -> x.order(64));
            DUE.is(0.5f, x.stepShare());
            DUE.is(true, x.isTrue());
        }
    }

    private static void justTooLong() {
        DUE.promise(16, "lead and cycle of 1001 together are too long");
        PulseMeadow[] tooLong = {cycle999(2), Meadows.beaters(77, 0, 13, 0), Meadows.beaters(91, 5, 11, 5), late(20, 36)};
        for (PulseMeadow x : tooLong) {
            DUE.fails(Due.ARITHMETIC, () -> x.cycle());
            DUE.fails(Due.ARITHMETIC, () -> x.lead());
            DUE.fails(Due.ARITHMETIC, () -> x.beats(0));
            DUE.fails(Due.ARITHMETIC, () -> x.inStep(0, 1));
            DUE.fails(Due.ARITHMETIC, () -> x.inStep(1, 1));
            DUE.fails(Due.ARITHMETIC, () -> x.groups());
            DUE.fails(Due.ARITHMETIC, () -> x.groupOf(0));
            DUE.fails(Due.ARITHMETIC, () -> x.islands());
            DUE.fails(Due.ARITHMETIC, () -> x.order(0));
            DUE.fails(Due.ARITHMETIC, () -> x.order(-1));
            DUE.fails(Due.ARITHMETIC, () -> x.stepShare());
            DUE.is(true, x.isTrue());
            DUE.is(true, x.strip(0) >= 0);
            DUE.is(true, x.meanPhase() >= 0);
        }
        // A tick later the lead is 1 less, and the way short enough.
        PulseMeadow x = cycle999(2);
        x.run(1);
        DUE.is(999, x.cycle());
        DUE.is(1, x.lead());
        x.run(2);
        DUE.is(0, x.lead());
    }

    private static void cycleOf1000() {
        DUE.promise(16, "a cycle of 1000 without a lead is not too long, with a lead of 1 it is");
        // The second one is 1 later in each 25 ticks, so that both are back in 125; the third one has 8.
        PulseMeadow x = Meadows.beaters(25, 0, 20, 16, 8, 0);
        for (int quarter = 0; quarter < 4; quarter++) {
            x.answer(1, quarter, -1);
        }
        x.link(0, 1, 1, 1);
        DUE.fails(Due.ARITHMETIC, () -> x.cycle());
        DUE.fails(Due.ARITHMETIC, () -> x.lead());
        DUE.fails(Due.ARITHMETIC, () -> x.beats(2));
        DUE.is(true, x.isTrue());
        x.run(1);
        DUE.is(1000, x.cycle());
        DUE.is(0, x.lead());
        DUE.is(40, x.beats(0));
        DUE.is(48, x.beats(1));
        DUE.is(125, x.beats(2));
        DUE.is(3, x.groups());
        DUE.is(1, x.order(0));
        DUE.is(true, x.order(212) >= 0);
        DUE.fails(Due.NO_ELEMENT, () -> x.order(213));
        DUE.is(true, x.isTrue());
    }

    /** The second one comes 1 later each time, until it is in step with the first one. */
    private static PulseMeadow late(int first, int second) {
        PulseMeadow x = new PulseMeadow();
        x.beater(0, 60, first, 0);
        x.beater(1, 60, second, 1);
        for (int quarter = 0; quarter < 4; quarter++) {
            x.answer(1, quarter, -1);
        }
        x.link(0, 1, 1, 1);
        return x;
    }

    private static void longLeads() {
        DUE.promise(17, "the lead is how many ticks there are ahead of the first state that returns");
        PulseMeadow x = late(21, 37);
        DUE.is(940, x.lead());
        DUE.is(60, x.cycle());
        DUE.is(true, x.inStep(0, 1));
        DUE.is(1, x.groups());
        DUE.is(1, x.islands());
        DUE.is(1.0f, x.stepShare());
        for (int left = 939; left > 700; left--) {
            x.run(1);
            DUE.is(left, x.lead());
        }
        PulseMeadow y = late(21, 37);
        y.run(500);
        y.run(439);
        DUE.is(1, y.lead());
        y.run(1);
        DUE.is(0, y.lead());
        y.run(1);
        DUE.is(0, y.lead());
        DUE.is(60, y.cycle());
        PulseMeadow tooLong = late(20, 36);
        DUE.fails(Due.ARITHMETIC, () -> tooLong.lead());
        tooLong.run(1);
        DUE.is(940, tooLong.lead());
    }

    private static void signalsAsPartOfAState() {
        DUE.promise(17, "a state is all phases, and all signals under way, and how soon they come");
        for (int delay = 1; delay <= 30; delay++) {
            PulseMeadow x = new PulseMeadow();
            x.beater(0, 3, 2, 0);
            x.beater(1, 3, 2, 0);
            for (int quarter = 0; quarter < 4; quarter++) {
                x.answer(1, quarter, 0);
            }
            x.link(0, 1, delay, 1);
            x.run(1);
            x.cut(0);
            // The phases alone return each 3rd tick; the signal is gone when it came.
            DUE.is(delay, x.lead());
            DUE.is(3, x.cycle());
        }
        // To the first one as well, and to the one at the last place.
        for (int delay = 1; delay <= 30; delay++) {
            PulseMeadow x = new PulseMeadow();
            x.beater(0, 3, 2, 2);
            x.beater(15, 3, 2, 2);
            for (int quarter = 0; quarter < 4; quarter++) {
                x.answer(0, quarter, 0);
                x.answer(15, quarter, 0);
            }
            int to = delay % 2 == 0 ? 0 : 15;
            x.link(15 - to, to, delay, 1);
            x.run(1);
            x.cut(0);
            DUE.is(delay, x.lead());
            DUE.is(3, x.cycle());
        }
        // With its link left, signals come for ever, and the state is back when as many are under way.
        for (int delay = 1; delay <= 30; delay++) {
            PulseMeadow x = Meadows.beaters(3, 0, 3, 0);
            for (int quarter = 0; quarter < 4; quarter++) {
                x.answer(1, quarter, 0);
            }
            x.link(0, 1, delay, 1);
            DUE.is(3, x.cycle());
            DUE.is(delay, x.lead());
        }
    }

    private static void strengthsSummedUp() {
        DUE.promise(17, "in a state the strengths are summed up, by places");
        // Two of the strength 1 are under way now, one of the strength 2 will be, in as many ticks.
        PulseMeadow x = Meadows.beaters(6, 5, 6, 5, 6, 1);
        x.link(0, 2, 2, 1);
        x.link(1, 2, 2, 1);
        for (int quarter = 0; quarter < 4; quarter++) {
            x.answer(2, quarter, 0);
        }
        x.run(1);
        x.cut(0);
        x.cut(0);
        x.link(1, 2, 2, 2);
        DUE.is(0, x.lead());
        DUE.is(6, x.cycle());
        // Of another sum, or at another place, it would be another state.
        x.cut(0);
        x.link(1, 2, 2, 3);
        DUE.is(2, x.lead());
        x.cut(0);
        x.link(1, 0, 2, 2);
        DUE.is(true, x.lead() > 0);
    }

    private static void signalsToEmptyPlaces() {
        DUE.promise(17, "signals under way to places without beaters are no part of a state");
        PulseMeadow x = Meadows.beaters(6, 5);
        x.link(0, 15, 30, 9);
        x.run(1);
        x.cut(0);
        DUE.is(0, x.lead());
        DUE.is(6, x.cycle());
        x.beater(15, 6, 0, 0);
        DUE.is(30, x.lead());
    }

    private static void beatsAtTheEdges() {
        DUE.promise(18, "how often a beater flashes in the cycle");
        PulseMeadow x = Meadows.beaters(2, 1, 99, 5, 66, 7);
        DUE.is(198, x.cycle());
        DUE.is(99, x.beats(0));
        DUE.is(2, x.beats(1));
        DUE.is(3, x.beats(2));
        DUE.is(0, Meadows.held().beats(0));
        DUE.is(1, Meadows.held().beats(1));
        PulseMeadow every = everyTick();
        DUE.is(2, every.cycle());
        DUE.is(2, every.beats(1));
        // Only the cycle counts: in the lead it flashes once, in the cycle never more.
        PulseMeadow y = Meadows.held();
        y.push(0, 49);
        DUE.is(1, y.strip(0));
        DUE.is(0, y.beats(0));
        DUE.is(0, x.flashes(0));
    }

    private static void inStepAtTheEdges() {
        DUE.promise(19, "in step in just the same ticks of the cycle, also if they do not flash at all");
        PulseMeadow x = new PulseMeadow();
        x.beater(0, 2, 0, 0);
        for (int place : new int[] {3, 15}) {
            x.beater(place, 40 + place, 5 * place / 3, 0);
            for (int quarter = 0; quarter < 4; quarter++) {
                x.answer(place, quarter, -9);
            }
            x.link(0, place, 1, 9);
        }
        DUE.is(0, x.beats(3));
        DUE.is(0, x.beats(15));
        DUE.is(true, x.inStep(3, 15));
        DUE.is(true, x.inStep(15, 3));
        DUE.is(false, x.inStep(0, 15));
        DUE.is(false, x.inStep(3, 0));
        DUE.is(true, x.inStep(3, 3));
        // As often, but a tick apart; in some ticks, but not in all.
        DUE.is(false, Meadows.beaters(99, 0, 99, 98).inStep(0, 1));
        DUE.is(false, Meadows.beaters(8, 1, 4, 1).inStep(0, 1));
        DUE.is(false, Meadows.beaters(4, 1, 8, 1).inStep(0, 1));
        DUE.is(true, Meadows.beaters(99, 98, 99, 98).inStep(1, 0));
        // In the lead they are not in step, in the cycle they are.
        PulseMeadow y = late(21, 37);
        DUE.is(false, y.strip(0) == y.strip(1));
        DUE.is(true, y.inStep(0, 1));
    }

    private static void groupsAtTheEdges() {
        DUE.promise(20, "groups of all in step, of none, of 16 beaters");
        PulseMeadow apart = Meadows.row(16, 16);
        DUE.is(16, apart.groups());
        PulseMeadow together = Meadows.row(16, 99);
        for (int place = 0; place < 16; place++) {
            together.push(place, -99);
            DUE.is(place, apart.groupOf(place));
        }
        DUE.is(1, together.groups());
        PulseMeadow turns = Meadows.row(16, 5);
        DUE.is(5, turns.groups());
        DUE.promise(21, "groups are numbered by their first places from 0");
        for (int place = 0; place < 16; place++) {
            DUE.is(0, together.groupOf(place));
            DUE.is(place % 5, turns.groupOf(place));
        }
        // Asked first, and anew as the beaters change.
        DUE.is(2, Meadows.row(5, 9).groupOf(2));
        PulseMeadow changed = Meadows.row(5, 9);
        DUE.is(3, changed.groupOf(3));
        changed.push(2, -1);
        DUE.is(2, changed.groupOf(3));
        changed.push(3, -2);
        DUE.is(1, changed.groupOf(3));
        int[] phases = {7, 3, 7, 1, 3, 0};
        int[] due = {0, 1, 0, 2, 1, 3};
        PulseMeadow x = new PulseMeadow();
        for (int i = 0; i < 6; i++) {
            x.beater(15 - 2 * i, 9, phases[5 - i], 0);
        }
        DUE.is(4, x.groups());
        for (int i = 0; i < 6; i++) {
            DUE.is(due[i], x.groupOf(5 + 2 * i));
        }
        DUE.fails(Due.NO_ELEMENT, () -> x.groupOf(6));
        DUE.fails(Due.NO_ELEMENT, () -> x.groupOf(19));
        DUE.fails(Due.BOUNDS, () -> x.groupOf(20));
    }

    private static int islandsOf(int... phases) {
        PulseMeadow x = new PulseMeadow();
        for (int i = 0; i < phases.length; i++) {
            x.beater(16 - phases.length + i, 9, phases[i], 0);
        }
        return x.islands();
    }

    private static void islandsGoingRound() {
        DUE.promise(22, "islands in the order of beaters going round, from the last one to the first one");
        DUE.is(0, islandsOf());
        DUE.is(1, islandsOf(4));
        DUE.is(1, islandsOf(4, 4));
        DUE.is(2, islandsOf(4, 5));
        DUE.is(1, islandsOf(4, 4, 4));
        DUE.is(2, islandsOf(4, 4, 5));
        DUE.is(2, islandsOf(4, 5, 4));
        DUE.is(2, islandsOf(5, 4, 4));
        DUE.is(3, islandsOf(4, 5, 6));
        DUE.is(4, islandsOf(4, 5, 4, 5));
        DUE.is(2, islandsOf(4, 5, 5, 4));
        DUE.is(3, islandsOf(4, 5, 6, 4));
        DUE.is(1, islandsOf(0, 0, 0, 0, 0, 0, 0, 0, 0, 0, 0, 0, 0, 0, 0, 0));
        DUE.is(2, islandsOf(0, 0, 0, 0, 0, 0, 0, 0, 0, 0, 0, 0, 0, 0, 0, 1));
        DUE.is(2, islandsOf(0, 0, 0, 0, 0, 0, 0, 1, 0, 0, 0, 0, 0, 0, 0, 0));
        DUE.is(16, islandsOf(0, 1, 0, 1, 0, 1, 0, 1, 0, 1, 0, 1, 0, 1, 0, 1));
        DUE.is(15, islandsOf(0, 1, 0, 1, 0, 1, 0, 1, 0, 1, 0, 1, 0, 1, 2, 0));
    }

    private static void orderAtTheEdges() {
        DUE.promise(23, "who flashes in a cycle, by ticks, in these by places, the index from 0");
        PulseMeadow x = Meadows.beaters(4, 1, 4, 3, 2, 1, 4, 1);
        int[] due = {1, 2, 0, 2, 3};
        for (int i = 0; i < due.length; i++) {
            DUE.is(due[i], x.order(i));
        }
        for (int index : new int[] {due.length, due.length + 1, Integer.MAX_VALUE, -1, Integer.MIN_VALUE}) {
            DUE.fails(Due.NO_ELEMENT, () -> x.order(index));
        }
        PulseMeadow row = Meadows.row(16, 16);
        for (int i = 0; i < 16; i++) {
            DUE.is(15 - i, row.order(i));
        }
        PulseMeadow all = new PulseMeadow();
        for (int place = 0; place < 16; place++) {
            all.beater(place, 99, 98, 0);
        }
        for (int i = 0; i < 16; i++) {
            DUE.is(i, all.order(i));
        }
        DUE.fails(Due.NO_ELEMENT, () -> all.order(16));
        // From the first state that returns on: the flash ahead of it, in the lead, is not told.
        PulseMeadow held = Meadows.held();
        held.push(0, 49);
        DUE.is(1, held.order(0));
        DUE.fails(Due.NO_ELEMENT, () -> held.order(1));
        // The flash of the tick that brings that state is the cycle's last one, not its first one.
        PulseMeadow y = new PulseMeadow();
        y.beater(0, 5, 4, 0);
        y.beater(1, 5, 0, 4);
        y.link(0, 1, 1, 1);
        y.run(1);
        y.cut(0);
        DUE.is(1, y.lead());
        DUE.is(1, y.order(0));
        DUE.is(0, y.order(1));
    }

    private static void noiseAndWays() {
        DUE.promise(16, "no way is asked for while there is noise, least noise too");
        PulseMeadow x = Meadows.beaters(6, 2, 6, 4);
        for (int noise : new int[] {1, 99}) {
            x.noise(noise);
            DUE.fails(Due.UNSUPPORTED, () -> x.cycle());
            DUE.fails(Due.UNSUPPORTED, () -> x.lead());
            DUE.fails(Due.UNSUPPORTED, () -> x.beats(0));
            DUE.fails(Due.UNSUPPORTED, () -> x.inStep(0, 1));
            DUE.fails(Due.UNSUPPORTED, () -> x.groups());
            DUE.fails(Due.UNSUPPORTED, () -> x.groupOf(1));
            DUE.fails(Due.UNSUPPORTED, () -> x.islands());
            DUE.fails(Due.UNSUPPORTED, () -> x.order(0));
            DUE.fails(Due.UNSUPPORTED, () -> x.stepShare());
            DUE.fails(Due.UNSUPPORTED, () -> x.leastPush());
            DUE.is(true, x.isTrue());
            x.noise(0);
            DUE.is(6, x.cycle());
            DUE.is(2, x.leastPush());
        }
    }

    private static void pushesOfOneToEight() {
        DUE.promise(28, "1 to 8 beaters, the least push of those that are not in step with the first one");
        for (int beaters = 1; beaters <= 8; beaters++) {
            PulseMeadow x = new PulseMeadow();
            int due = 0;
            for (int i = 0; i < beaters; i++) {
                int place = 16 - beaters + i;
                x.beater(place, 30, 7 + i % 3, 0);
                due |= i % 3 == 0 ? 0 : 1 << place;
            }
            DUE.is(due, x.leastPush());
            DUE.is(7, x.phase(16 - beaters));
        }
        PulseMeadow x = Meadows.row(8, 8);
        DUE.is(0xfe, x.leastPush());
        x.beater(15, 8, 0, 0);
        DUE.fails(Due.UNSUPPORTED, () -> x.leastPush());
        PulseMeadow none = new PulseMeadow();
        none.swing(16, 0);
        DUE.fails(Due.UNSUPPORTED, () -> none.leastPush());
        // That without any too.
        DUE.is(0, Meadows.beaters(9, 4, 9, 4, 9, 4).leastPush());
        DUE.is(0, late(21, 37).leastPush());
    }

    private static void pushesNowhere() {
        DUE.promise(28, "there is none that brings all in step");
        PulseMeadow x = Meadows.beaters(9, 4, 8, 4);
        DUE.fails(Due.NO_ELEMENT, () -> x.leastPush());
        DUE.is(4, x.phase(0));
        DUE.is(4, x.phase(1));
        PulseMeadow y = new PulseMeadow();
        for (int place = 0; place < 8; place++) {
            y.beater(place, 9 - place, 0, 0);
        }
        DUE.fails(Due.NO_ELEMENT, () -> y.leastPush());
        DUE.fails(Due.NO_ELEMENT, () -> Meadows.held().leastPush());
    }

    /** That those of the set, as bits of places, get the phase of the first one, makes one group. */
    private static boolean oneGroup(int period, int[] phases, int set, char kind, int delay, int strength) {
        PulseMeadow x = netted(period, phases, set, kind, delay, strength);
        try {
            return x.groups() == 1;
        } catch (ArithmeticException e) {
            return false;
        }
    }

    private static PulseMeadow netted(int period, int[] phases, int set, char kind, int delay, int strength) {
        PulseMeadow x = new PulseMeadow();
        for (int i = 0; i < phases.length; i++) {
            x.beater(i + 1, period, (set >> i + 1 & 1) == 1 ? phases[0] : phases[i], 0);
        }
        x.net(kind, delay, strength);
        return x;
    }

    private static int leastOf(int period, int[] phases, char kind, int delay, int strength) {
        int best = -1;
        for (int set = 0; set < 1 << phases.length + 1; set += 2) {
            boolean fewer = best < 0 || Integer.bitCount(set) < Integer.bitCount(best);
            if (fewer && oneGroup(period, phases, set, kind, delay, strength)) {
                best = set;
            }
        }
        return best;
    }

    private static void setsOfLikeMany() {
        DUE.promise(28, "of sets with like many beaters, that of the least number as bits of places");
        int[] three = {0, 4, 3};
        DUE.is(true, oneGroup(7, three, 4, 'a', 3, 2) && oneGroup(7, three, 8, 'a', 3, 2));
        DUE.is(4, netted(7, three, 0, 'a', 3, 2).leastPush());
        int[] four = {1, 2, 3, 3};
        DUE.is(true, oneGroup(4, four, 12, 'a', 3, 1) && oneGroup(4, four, 20, 'a', 3, 1));
        DUE.is(true, oneGroup(4, four, 24, 'a', 3, 1));
        DUE.is(12, netted(4, four, 0, 'a', 3, 1).leastPush());
        int[] behind = {2, 1, 7, 1, 8};
        DUE.is(40, netted(9, behind, 0, 'a', 2, 2).leastPush());
    }

    private static void fewestNotLeast() {
        DUE.promise(28, "the set with the fewest beaters, though another one has a less number");
        int[] phases = {5, 1, 6, 2};
        DUE.is(true, oneGroup(7, phases, 12, 'a', 2, 2) && oneGroup(7, phases, 16, 'a', 2, 2));
        DUE.is(16, netted(7, phases, 0, 'a', 2, 2).leastPush());
        DUE.is(16, netted(5, new int[] {2, 0, 3, 4}, 0, 'a', 4, 1).leastPush());
        DUE.is(32, netted(9, new int[] {3, 5, 7, 3, 0}, 0, 'a', 1, 3).leastPush());
        java.util.Random lots = new java.util.Random(3);
        for (int i = 0; i < 200; i++) {
            int period = 4 + lots.nextInt(6);
            int[] some = lots.ints(2 + lots.nextInt(4), 0, period).toArray();
            char kind = "rlha".charAt(lots.nextInt(4));
            int due = leastOf(period, some, kind, 2, 2);
            PulseMeadow x = netted(period, some, 0, kind, 2, 2);
            if (due < 0) {
                DUE.fails(Due.NO_ELEMENT, () -> x.leastPush());
            } else {
                DUE.is(due, x.leastPush());
            }
        }
    }

    private static void pushToPeriodLessOne() {
        DUE.promise(28, "each gets the phase of the first one, or its period less 1, if that is less");
        // They are in step if the signal comes at the phase 8, each time; from any other phase but 8
        // on it comes later and later, until it comes at the phase 7, each time.
        for (int first = 0; first < 10; first++) {
            for (int second = 0; second < 9; second++) {
                PulseMeadow x = two(first, second);
                boolean now = second == (first + 8) % 9;
                if (now || first == 9) {
                    DUE.is(now ? 0 : 2, x.leastPush());
                } else {
                    DUE.fails(Due.NO_ELEMENT, () -> x.leastPush());
                }
            }
        }
        // Each of the others gets its own.
        PulseMeadow x = Meadows.beaters(10, 9, 9, 3, 9, 8, 9, 0);
        for (int place = 1; place < 4; place++) {
            for (int quarter = 0; quarter < 4; quarter++) {
                x.answer(place, quarter, quarter < 3 ? 0 : -1);
            }
            x.link(0, place, 9, 1);
        }
        DUE.is(10, x.leastPush());
        oneLessNotTheWhole();
    }

    /** A signal comes in the next tick, and holds the second one if its phase is its period less 1. */
    private static void oneLessNotTheWhole() {
        for (int second = 0; second < 8; second++) {
            PulseMeadow x = Meadows.beaters(10, 9, 8, 0);
            for (int quarter = 0; quarter < 4; quarter++) {
                x.answer(1, quarter, quarter < 3 ? 0 : -1);
            }
            x.link(0, 1, 8, 1);
            x.link(0, 1, 9, 1);
            x.run(9);
            x.push(1, -99);
            x.push(1, second);
            DUE.is(8, x.phase(0));
            DUE.is(1, x.waiting(1));
            DUE.is(second == 7 ? 0 : 2, x.leastPush());
        }
    }

    /** The first one, of the period 10, holds the second one, of the period 9, back by 1 in its last quarter. */
    private static PulseMeadow two(int first, int second) {
        PulseMeadow x = Meadows.beaters(10, first, 9, second);
        for (int quarter = 0; quarter < 3; quarter++) {
            x.answer(1, quarter, 0);
        }
        x.answer(1, 3, -1);
        x.link(0, 1, 9, 1);
        return x;
    }

    private static void pushesOfLongWays() {
        DUE.promise(28, "one whose way is too long does not bring all in step");
        // Without any push all come in step, after 1000 ticks with the cycle, or after 1001.
        DUE.is(0, late(21, 37).leastPush());
        DUE.is(2, late(20, 36).leastPush());
        DUE.fails(Due.NO_ELEMENT, () -> Meadows.beaters(97, 0, 98, 0).leastPush());
        PulseMeadow later = late(20, 36);
        later.run(1);
        DUE.is(0, later.leastPush());
    }

    private static void sharesAtTheEdges() {
        DUE.promise(39, "the number of those in step with the first one, it too, divided by that of all");
        for (int all = 1; all <= 16; all++) {
            for (int with = 1; with <= all; with++) {
                PulseMeadow x = new PulseMeadow();
                for (int i = 0; i < all; i++) {
                    x.beater(16 - all + i, 20, i < with ? 7 : 8, 0);
                }
                DUE.is((float) with / (float) all, x.stepShare());
                // Also if those that are with it are the last ones.
                for (int i = 1; i < all; i++) {
                    x.beater(16 - all + i, 20, i > all - with ? 7 : 9, 0);
                }
                DUE.is((float) with / (float) all, x.stepShare());
            }
        }
        PulseMeadow none = new PulseMeadow();
        DUE.fails(Due.ARITHMETIC, () -> none.stepShare());
        none.noise(1);
        DUE.fails(Due.UNSUPPORTED, () -> none.stepShare());
        DUE.fails(Due.ARITHMETIC, () -> Meadows.endless().stepShare());
        DUE.fails(Due.UNSUPPORTED, () -> Meadows.endlessNoisy().stepShare());
        // All of them never flash, the first one too.
        PulseMeadow x = new PulseMeadow();
        x.beater(15, 2, 0, 0);
        for (int place = 0; place < 3; place++) {
            x.beater(place, 40, 3 * place, 0);
            for (int quarter = 0; quarter < 4; quarter++) {
                x.answer(place, quarter, -9);
            }
            x.link(15, place, 1, 9);
        }
        DUE.is(0.75f, x.stepShare());
    }

    private static void meanAtTheEdges() {
        DUE.promise(40, "the sum of phases divided by their number, both converted to double");
        for (int all = 1; all <= 16; all++) {
            PulseMeadow x = new PulseMeadow();
            int sum = 0;
            for (int i = 0; i < all; i++) {
                x.beater(i, 99, 98 - i * i % 90, 0);
                sum += 98 - i * i % 90;
            }
            DUE.is((double) sum / (double) all, x.meanPhase());
        }
        DUE.is(98.0, Meadows.beaters(99, 98).meanPhase());
        DUE.is(0.0, Meadows.beaters(99, 0, 2, 0).meanPhase());
        DUE.is(0.5, Meadows.beaters(99, 0, 2, 1).meanPhase());
        PulseMeadow none = new PulseMeadow();
        DUE.fails(Due.ARITHMETIC, () -> none.meanPhase());
        none.swing(16, 1000);
        DUE.fails(Due.ARITHMETIC, () -> none.meanPhase());
    }

    private static void alwaysTrue() {
        DUE.promise(42, "without noise, and if the way is not too long; else what is left of it");
        DUE.is(true, new PulseMeadow().isTrue());
        DUE.is(true, Meadows.emptyNoisy().isTrue());
        DUE.is(true, Meadows.endless().isTrue());
        DUE.is(true, Meadows.endlessNoisy().isTrue());
        DUE.is(true, Meadows.noisy().isTrue());
        DUE.is(true, Meadows.full().isTrue());
        DUE.is(true, cycle999(1).isTrue());
        DUE.is(true, cycle999(2).isTrue());
        DUE.is(true, late(21, 37).isTrue());
        DUE.is(true, late(20, 36).isTrue());
        PulseMeadow x = Meadows.beaters(99, 98, 50, 49, 2, 1);
        for (int period = 98; period >= 2; period--) {
            x.period(0, period);
            x.push(0, 99);
            DUE.is(true, x.isTrue());
        }
    }

    private interface Change {
        void on(PulseMeadow x);
    }

    /** What is told of the way behind a change, if it was asked for ahead of it too, or not. */
    private static void shows(Change change) {
        PulseMeadow x = Meadows.few();
        PulseMeadow y = Meadows.few();
        String before = wayOf(x);
        change.on(x);
        change.on(y);
        DUE.is(wayOf(y), wayOf(x));
        DUE.is(false, before.equals(wayOf(x)));
        DUE.is(Told.of(y), Told.of(x));
    }

    private static String wayOf(PulseMeadow x) {
        try {
            StringBuilder text = new StringBuilder();
            text.append(x.cycle()).append(' ').append(x.lead());
            int flashes = x.beats(0) + x.beats(1) + x.beats(4);
            for (int i = 0; i < Math.min(flashes, 8); i++) {
                text.append(' ').append(x.order(i));
            }
            return text.toString();
        } catch (ArithmeticException e) {
            return "too long";
        }
    }

    private static void changesShowAtOnce() {
        DUE.promise(16, "the way is that from now, whatever changed just ahead of it");
        shows(x -> x.beater(1, 11, 3, 0));
        shows(x -> x.beater(15, 13, 3, 0));
        shows(x -> x.period(0, 11));
        shows(x -> x.answer(1, 1, -1));
        shows(x -> x.link(4, 1, 3, 7));
        shows(x -> x.cut(0));
        shows(x -> x.net('a', 7, 3));
        shows(x -> x.run(1));
        shows(x -> x.push(1, 2));
    }

    private static void asked(PulseMeadow x) {
        for (int turn = 0; turn < 2; turn++) {
            x.tick();
            x.phase(0);
            x.flashes(1);
            x.last(4);
            x.waiting(1);
            x.strip(4);
            x.cycle();
            x.lead();
            x.beats(1);
            x.inStep(0, 4);
            x.groups();
            x.groupOf(4);
            x.islands();
            x.order(0);
            x.fits();
            x.guess(0);
            x.angleBits(18);
            x.energyBits();
            x.stepShare();
            x.meanPhase();
            x.checksum();
            x.isTrue();
        }
    }

    private static void askingChangesNothing() {
        DUE.promise(16, "what is asked alone changes nothing");
        PulseMeadow few = Meadows.few();
        asked(few);
        DUE.is(Told.of(Meadows.few()), Told.of(few));
        PulseMeadow full = Meadows.full();
        asked(full);
        DUE.is(Told.of(Meadows.full()), Told.of(full));
        PulseMeadow row = Meadows.row(8, 9);
        row.net('a', 2, 1);
        row.run(5);
        PulseMeadow same = Meadows.row(8, 9);
        same.net('a', 2, 1);
        same.run(5);
        DUE.is(same.leastPush(), row.leastPush());
        row.leastPush();
        same = Meadows.row(8, 9);
        same.net('a', 2, 1);
        same.run(5);
        DUE.is(Told.of(same), Told.of(row));
    }
}
