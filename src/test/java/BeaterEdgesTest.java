/** Promises 1 to 9 and 27: each sentence that names a boundary, for what is put, linked and pushed. */
public final class BeaterEdgesTest {
    private static final Due DUE = new Due();

    public static void main(String[] args) {
        newMeadowsShareNothing();
        placesForBeaters();
        leastAndGreatestBeaters();
        takesThePlace();
        linksAndSignalsStay();
        placesForSwings();
        leastAndGreatestSwings();
        takesTheSwingsPlace();
        phaseOfAll();
        shorterPeriod();
        shorterQuietTime();
        longerPeriod();
        answersOfAll();
        linksAtTheEdges();
        severalBetweenTwo();
        sixtyLinks();
        thoseBehindComeNearer();
        signalsStayAsLinksGo();
        numbersOfNets();
        netsByNumberOfBeaters();
        netsInPlaceOfAll();
        netsAtTheEdges();
        pushesAtTheEdges();
        DUE.end();
    }

    private static void newMeadowsShareNothing() {
        DUE.promise(1, "nothing is there at first, whatever other meadows have");
        PulseMeadow other = Meadows.full();
        other.noise(40);
        other.seed(5);
        other.beam(9, 9);
        PulseMeadow x = new PulseMeadow();
        DUE.is(0, x.tick());
        DUE.is(7L * 31, x.checksum());
        DUE.is(0, x.wipe());
        DUE.is(0, x.noise(0));
        DUE.is(1, x.seed(1));
        DUE.is(10, x.beam(10, 0));
        DUE.is(0, x.sway(1));
        DUE.is(0, x.run(1));
        DUE.fails(Due.BOUNDS, () -> x.cut(0));
        for (int place = 0; place < 20; place++) {
            int p = place;
            DUE.fails(Due.NO_ELEMENT, () -> x.phase(p));
            DUE.fails(Due.NO_ELEMENT, () -> x.angleBits(p));
        }
        DUE.is(0, x.link(0, 1, 1, 1));
        // The pull is 0 at first: without it two swings do not heed one another.
        PulseMeadow alone = new PulseMeadow();
        alone.swing(16, 1000);
        alone.sway(9);
        PulseMeadow two = new PulseMeadow();
        two.swing(16, 1000);
        two.swing(17, -300);
        two.sway(9);
        DUE.is(alone.angleBits(16), two.angleBits(16));
    }

    private static void placesForBeaters() {
        DUE.promise(2, "the places 0 to 15 are for beaters");
        PulseMeadow x = new PulseMeadow();
        for (int place = 0; place < 16; place++) {
            DUE.is(false, x.beater(place, 20, place, 0));
        }
        for (int place = 0; place < 16; place++) {
            DUE.is(place, x.phase(place));
        }
        for (int place = 0; place < 16; place++) {
            DUE.is(true, x.beater(place, 20, 19 - place, 0));
        }
        for (int place = 0; place < 16; place++) {
            DUE.is(19 - place, x.phase(place));
        }
        for (int place = 16; place < 20; place++) {
            int p = place;
            DUE.fails(Due.UNSUPPORTED, () -> x.beater(p, 20, 0, 0));
        }
        DUE.fails(Due.BOUNDS, () -> x.beater(20, 20, 0, 0));
        DUE.fails(Due.BOUNDS, () -> x.beater(-1, 20, 0, 0));
    }

    private static void leastAndGreatestBeaters() {
        DUE.promise(2, "period 2 to 99, phase and quiet time 0 to the period less 1");
        for (int period = 2; period <= 99; period++) {
            int n = period;
            PulseMeadow x = new PulseMeadow();
            DUE.is(false, x.beater(0, n, n - 1, n - 1));
            DUE.is(n - 1, x.phase(0));
            DUE.is(true, x.beater(0, n, 0, 0));
            DUE.fails(Due.ARGUMENT, () -> x.beater(0, n, n, 0));
            DUE.fails(Due.ARGUMENT, () -> x.beater(0, n, 0, n));
            DUE.fails(Due.ARGUMENT, () -> x.beater(0, n, -1, 0));
            DUE.fails(Due.ARGUMENT, () -> x.beater(0, n, 0, -1));
            DUE.is(0, x.phase(0));
            DUE.is(n, x.period(0, 50));
        }
        PulseMeadow x = new PulseMeadow();
        DUE.fails(Due.ARGUMENT, () -> x.beater(0, 1, 0, 0));
        DUE.fails(Due.ARGUMENT, () -> x.beater(0, 0, 0, 0));
        DUE.fails(Due.ARGUMENT, () -> x.beater(0, 100, 0, 0));
        DUE.fails(Due.NO_ELEMENT, () -> x.phase(0));
    }

    private static void takesThePlace() {
        DUE.promise(2, "what is put takes the place of another one, its answers are 1");
        PulseMeadow x = new PulseMeadow();
        x.beater(3, 2, 1, 1);
        for (int quarter = 0; quarter < 4; quarter++) {
            DUE.is(1, x.answer(3, quarter, -9 + quarter));
        }
        x.run(5);
        DUE.is(3, x.flashes(3));
        DUE.is(5, x.last(3));
        DUE.is(true, x.beater(3, 9, 4, 0));
        DUE.is(4, x.phase(3));
        DUE.is(0, x.flashes(3));
        DUE.is(0, x.last(3));
        for (int quarter = 0; quarter < 4; quarter++) {
            DUE.is(1, x.answer(3, quarter, 1));
        }
        DUE.is(9, x.period(3, 9));
        DUE.is(5, x.tick());
        // The quiet time of the one before is gone too, each way round.
        DUE.is(true, heedsAfter(9, 0));
        DUE.is(false, heedsAfter(0, 9));
    }

    /** Whether a beater with the second quiet time, put where one with the first was, heeds at the phase 5. */
    private static boolean heedsAfter(int before, int quiet) {
        PulseMeadow x = signalTo(1, 1);
        x.beater(1, 10, 0, before);
        x.beater(1, 10, 5, quiet);
        x.run(1);
        return x.phase(1) == 7;
    }

    /** A signal of that strength comes to that place in the next tick. */
    private static PulseMeadow signalTo(int place, int strength) {
        PulseMeadow x = new PulseMeadow();
        x.beater(0, 90, 89, 0);
        x.link(0, place, 1, strength);
        x.run(1);
        x.cut(0);
        return x;
    }

    private static void linksAndSignalsStay() {
        DUE.promise(2, "links, and signals under way to it, stay");
        PulseMeadow x = new PulseMeadow();
        x.beater(0, 4, 3, 0);
        x.beater(1, 50, 0, 0);
        x.link(0, 1, 6, 5);
        x.link(1, 0, 2, 7);
        x.run(1);
        DUE.is(5, x.waiting(1));
        DUE.is(true, x.beater(1, 60, 59, 0));
        DUE.is(5, x.waiting(1));
        x.run(1);
        DUE.is(7, x.waiting(0));
        DUE.is(true, x.beater(0, 50, 40, 0));
        DUE.is(7, x.waiting(0));
        DUE.is(1, x.cut(0));
        x.run(2);
        DUE.is(49, x.phase(0));
        DUE.is(0, x.waiting(0));
        x.run(3);
        DUE.is(10, x.phase(1));
    }

    private static void placesForSwings() {
        DUE.promise(3, "the places 16 to 19 are for swings");
        PulseMeadow x = new PulseMeadow();
        for (int place = 16; place < 20; place++) {
            DUE.is(place - 16, x.sway(1));
            DUE.is(false, x.swing(place, 0));
            DUE.is(true, x.swing(place, 0));
        }
        DUE.is(4, x.sway(1));
        for (int place = 0; place < 16; place++) {
            int p = place;
            DUE.fails(Due.UNSUPPORTED, () -> x.swing(p, 0));
        }
        DUE.fails(Due.BOUNDS, () -> x.swing(20, 0));
        DUE.fails(Due.BOUNDS, () -> x.swing(-1, 0));
        DUE.is(4, x.sway(1));
    }

    private static void leastAndGreatestSwings() {
        DUE.promise(3, "the angle is -1000 to 1000, divided by 1000.0 in floats");
        PulseMeadow x = new PulseMeadow();
        int[] angles = {-1000, -999, -1, 0, 1, 3, 999, 1000};
        for (int angle : angles) {
            x.swing(16, angle);
            DUE.is(Float.floatToIntBits((float) angle / 1000.0f), x.angleBits(16));
        }
        DUE.is(0x3f800000, x.angleBits(16));
        DUE.fails(Due.ARGUMENT, () -> x.swing(16, 1001));
        DUE.fails(Due.ARGUMENT, () -> x.swing(16, -1001));
        DUE.fails(Due.ARGUMENT, () -> x.swing(17, 1001));
        DUE.is(0x3f800000, x.angleBits(16));
        DUE.fails(Due.NO_ELEMENT, () -> x.angleBits(17));
        x.swing(16, -1000);
        DUE.is(0xbf800000, x.angleBits(16));
        x.swing(16, 0);
        DUE.is(0, x.angleBits(16));
    }

    private static void takesTheSwingsPlace() {
        DUE.promise(3, "a swing's speed is 0 at first, also where another one was");
        PulseMeadow x = new PulseMeadow();
        x.swing(19, 800);
        x.sway(40);
        DUE.is(true, x.swing(19, 500));
        PulseMeadow y = new PulseMeadow();
        y.swing(19, 500);
        DUE.is(y.energyBits(), x.energyBits());
        x.sway(3);
        y.sway(3);
        DUE.is(y.angleBits(19), x.angleBits(19));
    }

    private static void phaseOfAll() {
        DUE.promise(4, "no beater is there: never at the places of swings");
        PulseMeadow x = Meadows.full();
        for (int place = 0; place < 16; place++) {
            int p = place;
            DUE.is(true, x.phase(p) >= 0 && x.phase(p) < 12);
        }
        for (int place = 16; place < 20; place++) {
            int p = place;
            DUE.fails(Due.NO_ELEMENT, () -> x.phase(p));
        }
        DUE.fails(Due.BOUNDS, () -> x.phase(20));
        DUE.fails(Due.BOUNDS, () -> x.phase(-1));
    }

    private static void shorterPeriod() {
        DUE.promise(5, "the phase, if it is not below the period, becomes 1 less than it");
        for (int period = 2; period <= 99; period++) {
            for (int phase : new int[] {0, period - 2, period - 1, period, period + 1, 98}) {
                if (phase <= 98) {
                    PulseMeadow x = new PulseMeadow();
                    x.beater(0, 99, phase, 0);
                    DUE.is(99, x.period(0, period));
                    DUE.is(phase < period ? phase : period - 1, x.phase(0));
                    DUE.is(period, x.period(0, period));
                }
            }
        }
        PulseMeadow x = Meadows.beaters(2, 1);
        DUE.fails(Due.ARGUMENT, () -> x.period(0, 1));
        DUE.fails(Due.ARGUMENT, () -> x.period(0, 100));
        DUE.is(2, x.period(0, 99));
        DUE.is(99, x.period(0, 2));
        DUE.is(0, x.flashes(0));
    }

    private static void shorterQuietTime() {
        DUE.promise(5, "the quiet time, if it is not below the period, becomes 1 less than it");
        for (int quiet = 5; quiet < 20; quiet++) {
            for (int period = 6; period < 20; period++) {
                int left = quiet < period ? quiet : period - 1;
                DUE.is(false, heeds(quiet, period, left - 1));
                DUE.is(true, heeds(quiet, period, left));
            }
        }
    }

    /** Whether a beater of that quiet time, then of that period, heeds at that phase, by being held back. */
    private static boolean heeds(int quiet, int period, int phase) {
        PulseMeadow x = signalTo(1, 1);
        x.beater(1, 20, phase, quiet);
        for (int quarter = 0; quarter < 4; quarter++) {
            x.answer(1, quarter, -1);
        }
        x.period(1, period);
        x.run(1);
        return x.phase(1) == phase;
    }

    private static void longerPeriod() {
        DUE.promise(5, "a longer period leaves phase, quiet time, flashes and answers");
        PulseMeadow x = Meadows.beaters(3, 2);
        x.answer(0, 3, 7);
        x.run(2);
        DUE.is(3, x.period(0, 99));
        DUE.is(1, x.phase(0));
        DUE.is(1, x.flashes(0));
        DUE.is(1, x.last(0));
        DUE.is(7, x.answer(0, 3, 7));
        x.run(97);
        DUE.is(98, x.phase(0));
        DUE.is(1, x.run(1));
    }

    private static void answersOfAll() {
        DUE.promise(6, "an answer for each quarter, -9 to 9, 1 at first");
        PulseMeadow x = new PulseMeadow();
        for (int place : new int[] {0, 1, 15}) {
            x.beater(place, 40, 0, 0);
        }
        for (int by = -9; by <= 9; by++) {
            for (int quarter = 0; quarter < 4; quarter++) {
                DUE.is(by == -9 ? 1 : by - 1, x.answer(15, quarter, by));
            }
        }
        for (int quarter = 0; quarter < 4; quarter++) {
            DUE.is(1, x.answer(0, quarter, quarter));
            DUE.is(1, x.answer(1, quarter, -quarter));
        }
        for (int quarter = 0; quarter < 4; quarter++) {
            DUE.is(quarter, x.answer(0, quarter, 0));
            DUE.is(-quarter, x.answer(1, quarter, 0));
        }
        DUE.fails(Due.ARGUMENT, () -> x.answer(15, 0, 10));
        DUE.fails(Due.ARGUMENT, () -> x.answer(15, 0, -10));
        DUE.fails(Due.ARGUMENT, () -> x.answer(15, 4, 0));
        DUE.fails(Due.ARGUMENT, () -> x.answer(15, -1, 0));
        DUE.is(9, x.answer(15, 0, 0));
    }

    private static void linksAtTheEdges() {
        DUE.promise(7, "delay 1 to 30, strength 1 to 9, from a place to another one");
        PulseMeadow x = new PulseMeadow();
        DUE.is(0, x.link(0, 15, 1, 1));
        DUE.is(1, x.link(15, 0, 30, 9));
        DUE.fails(Due.ARGUMENT, () -> x.link(0, 15, 0, 1));
        DUE.fails(Due.ARGUMENT, () -> x.link(0, 15, 31, 1));
        DUE.fails(Due.ARGUMENT, () -> x.link(0, 15, 1, 0));
        DUE.fails(Due.ARGUMENT, () -> x.link(0, 15, 1, 10));
        for (int place = 0; place < 20; place++) {
            int p = place;
            DUE.fails(p < 16 ? Due.ARGUMENT : Due.BOUNDS, () -> x.link(p, p, 1, 1));
        }
        DUE.fails(Due.BOUNDS, () -> x.link(0, 16, 1, 1));
        DUE.fails(Due.BOUNDS, () -> x.link(16, 0, 1, 1));
        DUE.fails(Due.BOUNDS, () -> x.link(0, -1, 1, 1));
        DUE.fails(Due.BOUNDS, () -> x.link(-1, 0, 1, 1));
        DUE.is(2, x.link(1, 2, 1, 1));
    }

    private static void severalBetweenTwo() {
        DUE.promise(7, "there can be several between two, also where no beaters are yet");
        PulseMeadow x = new PulseMeadow();
        DUE.is(0, x.link(0, 1, 2, 1));
        DUE.is(1, x.link(0, 1, 2, 1));
        DUE.is(2, x.link(0, 1, 3, 9));
        DUE.is(3, x.link(1, 0, 2, 1));
        x.beater(0, 9, 8, 0);
        x.beater(1, 99, 0, 0);
        x.run(1);
        DUE.is(11, x.waiting(1));
        x.run(2);
        DUE.is(9, x.waiting(1));
        DUE.is(5, x.phase(1));
        x.run(1);
        DUE.is(15, x.phase(1));
    }

    private static void sixtyLinks() {
        DUE.promise(7, "at most 60 links");
        PulseMeadow x = new PulseMeadow();
        for (int i = 0; i < 60; i++) {
            DUE.is(i, x.link(0, 1, 30, 9));
        }
        DUE.fails(Due.STATE, () -> x.link(0, 1, 30, 9));
        DUE.fails(Due.STATE, () -> x.link(4, 2, 1, 1));
        x.beater(0, 2, 1, 0);
        x.beater(1, 99, 0, 0);
        DUE.is(15, x.run(29));
        DUE.is(15 * 540, x.waiting(1));
        DUE.is(0, x.flashes(1));
        x.run(1);
        DUE.is(30, x.phase(1));
        DUE.is(15 * 540, x.waiting(1));
        DUE.is(2, x.run(1));
        DUE.is(0, x.phase(1));
        DUE.is(59, x.cut(59));
        DUE.is(59, x.link(2, 1, 1, 1));
        DUE.fails(Due.STATE, () -> x.link(2, 1, 1, 1));
    }

    /** Link i goes from 0 to one of 15 places; four of these to each, of the strengths 1, 2, 4 and 8. */
    private static PulseMeadow sixtyDifferent() {
        PulseMeadow x = new PulseMeadow();
        for (int i = 0; i < 60; i++) {
            x.link(0, 1 + i % 15, 1 + i / 2, 1 << i / 15);
        }
        x.beater(0, 99, 98, 0);
        for (int place = 1; place < 16; place++) {
            x.beater(place, 99, 0, 98);
        }
        return x;
    }

    private static void thoseBehindComeNearer() {
        DUE.promise(8, "as one is cut, those behind it come one nearer");
        for (int gone = 0; gone < 60; gone++) {
            int next = gone < 59 ? gone + 1 : 0;
            PulseMeadow x = sixtyDifferent();
            DUE.is(59, x.cut(gone));
            DUE.is(58, x.cut(gone < 59 ? gone : 0));
            DUE.fails(Due.BOUNDS, () -> x.cut(58));
            DUE.fails(Due.BOUNDS, () -> x.cut(-1));
            x.run(1);
            int[] due = new int[16];
            for (int i = 0; i < 60; i++) {
                due[1 + i % 15] += i == gone || i == next ? 0 : 1 << i / 15;
            }
            for (int place = 1; place < 16; place++) {
                DUE.is(due[place], x.waiting(place));
            }
            // Their delays came nearer as well: what is still under way after 10 ticks.
            x.run(10);
            for (int i = 0; i < 60; i++) {
                due[1 + i % 15] -= i == gone || i == next || 1 + i / 2 > 10 ? 0 : 1 << i / 15;
            }
            for (int place = 1; place < 16; place++) {
                DUE.is(due[place], x.waiting(place));
            }
        }
        PulseMeadow x = sixtyDifferent();
        for (int left = 59; left >= 0; left--) {
            DUE.is(left, x.cut(left / 2));
        }
        DUE.fails(Due.BOUNDS, () -> x.cut(0));
        x.run(1);
        DUE.is(0, x.waiting(1));
        DUE.is(0, x.link(0, 1, 1, 1));
    }

    private static void signalsStayAsLinksGo() {
        DUE.promise(8, "as a link is cut, its signals under way stay");
        for (int how = 0; how < 2; how++) {
            PulseMeadow x = Meadows.beaters(40, 39, 90, 0, 90, 0);
            x.link(0, 1, 30, 4);
            x.link(0, 2, 1, 4);
            x.run(1);
            if (how == 0) {
                DUE.is(1, x.cut(0));
                DUE.is(0, x.cut(0));
            } else {
                DUE.is(2, x.net('l', 5, 9));
            }
            DUE.is(4, x.waiting(1));
            DUE.is(4, x.waiting(2));
            x.run(1);
            DUE.is(6, x.phase(2));
            x.run(28);
            DUE.is(30, x.phase(1));
            DUE.is(4, x.waiting(1));
            x.run(1);
            DUE.is(35, x.phase(1));
            DUE.is(0, x.waiting(1));
        }
    }

    private static int[][] linksOf(char kind, int[] places) {
        int n = places.length;
        int[][] all = new int[n * n * 2][];
        int count = 0;
        for (int i = 0; i < n; i++) {
            if ((kind == 'r' || kind == 'l') && i + 1 < n) {
                all[count++] = new int[] {places[i], places[i + 1]};
            }
            if (kind == 'r' && i + 1 == n) {
                all[count++] = new int[] {places[i], places[0]};
            }
            if (kind == 'h' && i > 0) {
                all[count++] = new int[] {places[0], places[i]};
                all[count++] = new int[] {places[i], places[0]};
            }
            for (int j = 0; j < n && kind == 'a'; j++) {
                if (j != i) {
                    all[count++] = new int[] {places[i], places[j]};
                }
            }
        }
        return java.util.Arrays.copyOf(all, count);
    }

    private static void numbersOfNets() {
        DUE.promise(9, "a net gives its links in their order");
        int[][] sets = {{0, 1}, {3, 14}, {1, 4, 15}, {0, 7, 9, 15}, {2, 3, 5, 7, 8, 11, 13, 14}};
        for (int[] places : sets) {
            for (char kind : "rlha".toCharArray()) {
                int[][] due = linksOf(kind, places);
                for (int number = 0; number < due.length; number++) {
                    oneOfNet(kind, places, number, due);
                }
            }
        }
        int[] all = {0, 1, 2, 3, 4, 5, 6, 7, 8, 9, 10, 11, 12, 13, 14, 15};
        for (char kind : "rlh".toCharArray()) {
            int[][] due = linksOf(kind, all);
            for (int number = 0; number < due.length; number++) {
                oneOfNet(kind, all, number, due);
            }
        }
    }

    /** Of the net all links but that of the number are cut: who flashes, and to whom a signal goes. */
    private static void oneOfNet(char kind, int[] places, int number, int[][] due) {
        for (int flashing = 0; flashing < 2; flashing++) {
            PulseMeadow x = new PulseMeadow();
            for (int place : places) {
                boolean from = place == due[number][0];
                x.beater(place, 9, from == (flashing == 0) ? 8 : 0, 0);
            }
            DUE.is(due.length, x.net(kind, 3, 5));
            for (int i = due.length - 1; i >= 0; i--) {
                if (i != number) {
                    x.cut(i);
                }
            }
            x.run(1);
            for (int place : places) {
                DUE.is(flashing == 0 && place == due[number][1] ? 5 : 0, x.waiting(place));
            }
            x.run(2);
            DUE.is(flashing == 0 ? 5 : 0, x.waiting(due[number][1]));
            x.run(1);
            DUE.is(0, x.waiting(due[number][1]));
        }
    }

    private static void netsByNumberOfBeaters() {
        DUE.promise(9, "no net of fewer than 2 beaters, nor of more than 60 links");
        for (int beaters = 0; beaters <= 16; beaters++) {
            int n = beaters;
            PulseMeadow x = Meadows.row(n, 20);
            x.swing(16, 5);
            if (n < 2) {
                for (char kind : "rlha".toCharArray()) {
                    DUE.fails(Due.UNSUPPORTED, () -> x.net(kind, 1, 1));
                }
                continue;
            }
            DUE.is(n, x.net('r', 1, 1));
            DUE.is(n - 1, x.net('l', 1, 1));
            DUE.is(2 * n - 2, x.net('h', 1, 1));
            if (n <= 8) {
                DUE.is(n * n - n, x.net('a', 1, 1));
            } else {
                DUE.fails(Due.UNSUPPORTED, () -> x.net('a', 1, 1));
                DUE.is(2 * n - 3, x.cut(0));
            }
        }
    }

    private static void netsInPlaceOfAll() {
        DUE.promise(9, "a net is in place of all links");
        PulseMeadow x = Meadows.beaters(9, 8, 9, 0, 9, 0);
        for (int i = 0; i < 60; i++) {
            x.link(0, 2, 1, 1);
        }
        DUE.is(2, x.net('l', 1, 1));
        x.run(1);
        DUE.is(1, x.waiting(1));
        DUE.is(0, x.waiting(2));
        DUE.is(2, x.link(0, 2, 1, 1));
        DUE.is(6, x.net('a', 1, 1));
        DUE.is(2, x.net('l', 1, 1));
        // One that is refused leaves all 60.
        for (int i = 2; i < 60; i++) {
            x.link(0, 15, 1, 1);
        }
        for (int place = 3; place < 9; place++) {
            x.beater(place, 9, 0, 0);
        }
        DUE.fails(Due.UNSUPPORTED, () -> x.net('a', 1, 1));
        DUE.fails(Due.ARGUMENT, () -> x.net('s', 1, 1));
        DUE.fails(Due.STATE, () -> x.link(0, 15, 1, 1));
        DUE.is(59, x.cut(0));
    }

    private static void netsAtTheEdges() {
        DUE.promise(9, "of a kind that there is, delay 1 to 30, strength 1 to 9");
        PulseMeadow x = Meadows.beaters(9, 8, 90, 0);
        for (int kind = 0; kind < 65536; kind++) {
            if ("rlha".indexOf(kind) < 0) {
                char k = (char) kind;
                PulseMeadow y = kind % 300 == 0 ? Meadows.beaters(9, 8, 90, 0) : x;
                x = y;
                DUE.fails(Due.ARGUMENT, () -> y.net(k, 1, 1));
            }
        }
        for (int delay : new int[] {1, 30}) {
            for (int strength : new int[] {1, 9}) {
                PulseMeadow y = Meadows.beaters(90, 89, 90, 0);
                DUE.is(1, y.net('l', delay, strength));
                y.run(delay);
                DUE.is(strength, y.waiting(1));
                DUE.is(delay, y.phase(1));
                y.run(1);
                DUE.is(0, y.waiting(1));
                DUE.is(delay + 1 + strength, y.phase(1));
                DUE.fails(Due.ARGUMENT, () -> y.net('l', 0, 1));
                DUE.fails(Due.ARGUMENT, () -> y.net('l', 31, 1));
                DUE.fails(Due.ARGUMENT, () -> y.net('l', 1, 0));
                DUE.fails(Due.ARGUMENT, () -> y.net('l', 1, 10));
                DUE.is(0, y.cut(0));
            }
        }
    }

    private static void pushesAtTheEdges() {
        DUE.promise(27, "a push goes not below 0, and not above the period less 1");
        for (int period : new int[] {2, 3, 50, 98, 99}) {
            for (int phase : new int[] {0, 1, period / 2, period - 2, period - 1}) {
                for (int by : new int[] {-99, -98, -phase - 1, -phase, -1, 0, 1, period - 1 - phase, period - phase, 98, 99}) {
                    PulseMeadow x = Meadows.beaters(period, phase);
                    int due = phase + by < 0 ? 0 : phase + by > period - 1 ? period - 1 : phase + by;
                    DUE.is(due, x.push(0, by));
                    DUE.is(due, x.phase(0));
                    DUE.is(0, x.flashes(0));
                    DUE.is(0, x.tick());
                }
            }
        }
        PulseMeadow x = Meadows.beaters(99, 98);
        DUE.fails(Due.ARGUMENT, () -> x.push(0, 100));
        DUE.fails(Due.ARGUMENT, () -> x.push(0, -100));
        DUE.is(98, x.phase(0));
        DUE.is(1, x.run(1));
        // Its links do not heed a push, and quiet times do not hold it off.
        PulseMeadow y = new PulseMeadow();
        y.beater(5, 10, 0, 9);
        y.beater(6, 10, 0, 0);
        y.link(5, 6, 1, 1);
        DUE.is(9, y.push(5, 9));
        DUE.is(0, y.waiting(6));
    }
}
