/** Promises 1 to 14 and 27: beaters, links, nets, ticks, and pushes. */
public final class BeatersTest {
    private static final Due DUE = new Due();

    public static void main(String[] args) {
        newObject();
        beater();
        swing();
        phase();
        period();
        answer();
        link();
        cut();
        net();
        run();
        tickAndFlashes();
        waiting();
        push();
        quietTimes();
        answersByQuarter();
        oneEvent();
        DUE.end();
    }

    private static void newObject() {
        DUE.promise(1, "a new object");
        PulseMeadow x = new PulseMeadow();
        DUE.is(0, x.tick());
        DUE.is(217L, x.checksum());
        DUE.is(0, x.groups());
        DUE.is(0L, x.energyBits());
        DUE.is(0, x.sway(1));
        DUE.is(0, x.wipe());
        DUE.is(0, x.noise(0));
        DUE.is(1, x.seed(1));
        DUE.is(10, x.beam(10, 0));
        DUE.is(true, x.isTrue());
        DUE.fails(Due.BOUNDS, () -> x.cut(0));
        for (int place = 0; place < 20; place++) {
            int p = place;
            DUE.fails(Due.NO_ELEMENT, () -> x.phase(p));
            DUE.fails(Due.NO_ELEMENT, () -> x.angleBits(p));
        }
    }

    private static void beater() {
        DUE.promise(2, "beater");
        PulseMeadow x = new PulseMeadow();
        DUE.is(false, x.beater(0, 2, 1, 1));
        DUE.is(false, x.beater(15, 99, 98, 98));
        DUE.is(true, x.beater(15, 98, 0, 0));
        DUE.is(98, x.period(15, 99));
        for (int quarter = 0; quarter < 4; quarter++) {
            DUE.is(1, x.answer(15, quarter, 5));
        }
        x.run(99);
        DUE.is(1, x.flashes(15));
        DUE.is(true, x.beater(15, 99, 0, 0));
        DUE.is(0, x.flashes(15));
        DUE.is(0, x.last(15));
        DUE.is(1, x.answer(15, 2, 1));
        DUE.fails(Due.BOUNDS, () -> x.beater(-1, 1, 0, 0));
        DUE.fails(Due.BOUNDS, () -> x.beater(20, 5, 0, 0));
        DUE.fails(Due.ARGUMENT, () -> x.beater(1, 1, 0, 0));
        DUE.fails(Due.ARGUMENT, () -> x.beater(1, 100, 0, 0));
        DUE.fails(Due.ARGUMENT, () -> x.beater(1, 5, 5, 0));
        DUE.fails(Due.ARGUMENT, () -> x.beater(1, 5, -1, 0));
        DUE.fails(Due.ARGUMENT, () -> x.beater(1, 5, 0, 5));
        DUE.fails(Due.ARGUMENT, () -> x.beater(1, 5, 0, -1));
        DUE.fails(Due.ARGUMENT, () -> x.beater(1, Integer.MIN_VALUE, Integer.MAX_VALUE, 0));
        DUE.fails(Due.ARGUMENT, () -> x.beater(16, 5, 5, 0));
        DUE.fails(Due.UNSUPPORTED, () -> x.beater(16, 5, 0, 0));
        DUE.fails(Due.UNSUPPORTED, () -> x.beater(19, 5, 0, 0));
        DUE.fails(Due.NO_ELEMENT, () -> x.phase(1));
        DUE.fails(Due.ARGUMENT, () -> x.beater(15, 99, 99, 0));
        DUE.is(0, x.phase(15));
    }

    private static void swing() {
        DUE.promise(3, "swing");
        PulseMeadow x = new PulseMeadow();
        DUE.is(false, x.swing(16, 1000));
        DUE.is(false, x.swing(19, -1000));
        DUE.is(true, x.swing(16, 1));
        DUE.is(Float.floatToIntBits(1f / 1000f), x.angleBits(16));
        DUE.fails(Due.BOUNDS, () -> x.swing(20, 5000));
        DUE.fails(Due.BOUNDS, () -> x.swing(-1, 0));
        DUE.fails(Due.ARGUMENT, () -> x.swing(17, 1001));
        DUE.fails(Due.ARGUMENT, () -> x.swing(17, -1001));
        DUE.fails(Due.ARGUMENT, () -> x.swing(3, 1001));
        DUE.fails(Due.UNSUPPORTED, () -> x.swing(15, 0));
        DUE.fails(Due.UNSUPPORTED, () -> x.swing(0, 0));
        DUE.is(2, x.sway(1));
    }

    private static void phase() {
        DUE.promise(4, "phase");
        PulseMeadow x = new PulseMeadow();
        x.beater(3, 9, 7, 0);
        x.swing(16, 0);
        DUE.is(7, x.phase(3));
        x.run(1);
        DUE.is(8, x.phase(3));
        x.run(1);
        DUE.is(0, x.phase(3));
        DUE.fails(Due.BOUNDS, () -> x.phase(-1));
        DUE.fails(Due.BOUNDS, () -> x.phase(20));
        DUE.fails(Due.NO_ELEMENT, () -> x.phase(16));
        DUE.fails(Due.NO_ELEMENT, () -> x.phase(2));
    }

    private static void period() {
        DUE.promise(5, "period");
        PulseMeadow x = new PulseMeadow();
        x.beater(0, 20, 15, 12);
        x.beater(1, 4, 3, 0);
        x.link(1, 0, 1, 1);
        DUE.is(20, x.period(0, 13));
        DUE.is(12, x.phase(0));
        DUE.is(13, x.period(0, 12));
        DUE.is(11, x.phase(0));
        DUE.is(12, x.period(0, 12));
        x.run(2);
        // The quiet time is 11 now: the signal that came to the phase 0 was not heeded.
        DUE.is(1, x.phase(0));
        DUE.fails(Due.BOUNDS, () -> x.period(20, 1));
        DUE.fails(Due.ARGUMENT, () -> x.period(5, 1));
        DUE.fails(Due.ARGUMENT, () -> x.period(0, 100));
        DUE.fails(Due.NO_ELEMENT, () -> x.period(5, 2));
        DUE.fails(Due.NO_ELEMENT, () -> x.period(17, 2));
        DUE.is(12, x.period(0, 99));
        DUE.is(1, x.phase(0));
    }

    private static void answer() {
        DUE.promise(6, "answer");
        PulseMeadow x = new PulseMeadow();
        x.beater(0, 8, 0, 0);
        DUE.is(1, x.answer(0, 0, -9));
        DUE.is(-9, x.answer(0, 0, 9));
        DUE.is(1, x.answer(0, 3, 0));
        DUE.fails(Due.BOUNDS, () -> x.answer(-1, 4, 0));
        DUE.fails(Due.ARGUMENT, () -> x.answer(1, 4, 0));
        DUE.fails(Due.ARGUMENT, () -> x.answer(0, -1, 0));
        DUE.fails(Due.ARGUMENT, () -> x.answer(0, 0, 10));
        DUE.fails(Due.ARGUMENT, () -> x.answer(0, 0, -10));
        DUE.fails(Due.NO_ELEMENT, () -> x.answer(1, 0, 0));
        DUE.fails(Due.NO_ELEMENT, () -> x.answer(16, 0, 0));
        DUE.is(9, x.answer(0, 0, 1));
    }

    private static void link() {
        DUE.promise(7, "link");
        PulseMeadow x = new PulseMeadow();
        DUE.is(0, x.link(0, 15, 1, 1));
        DUE.is(1, x.link(15, 0, 30, 9));
        DUE.fails(Due.BOUNDS, () -> x.link(16, 0, 1, 1));
        DUE.fails(Due.BOUNDS, () -> x.link(0, 16, 1, 1));
        DUE.fails(Due.BOUNDS, () -> x.link(-1, -1, 0, 0));
        DUE.fails(Due.ARGUMENT, () -> x.link(3, 3, 1, 1));
        DUE.fails(Due.ARGUMENT, () -> x.link(3, 4, 0, 1));
        DUE.fails(Due.ARGUMENT, () -> x.link(3, 4, 31, 1));
        DUE.fails(Due.ARGUMENT, () -> x.link(3, 4, 1, 0));
        DUE.fails(Due.ARGUMENT, () -> x.link(3, 4, 1, 10));
        for (int i = 2; i < 60; i++) {
            DUE.is(i, x.link(4, 3, 2, 2));
        }
        DUE.fails(Due.STATE, () -> x.link(0, 1, 1, 1));
        DUE.fails(Due.ARGUMENT, () -> x.link(0, 0, 1, 1));
        DUE.is(59, x.cut(59));
        DUE.is(59, x.link(0, 1, 1, 1));
    }

    private static void cut() {
        DUE.promise(8, "cut");
        PulseMeadow x = new PulseMeadow();
        x.beater(0, 3, 2, 0);
        x.beater(1, 50, 0, 0);
        x.beater(2, 50, 0, 0);
        x.link(0, 1, 2, 1);
        x.link(0, 2, 2, 3);
        x.run(1);
        DUE.is(1, x.cut(0));
        DUE.is(1, x.waiting(1));
        x.run(3);
        DUE.is(0, x.waiting(1));
        DUE.is(3, x.waiting(2));
        DUE.is(5, x.phase(1));
        DUE.is(7, x.phase(2));
        DUE.fails(Due.BOUNDS, () -> x.cut(1));
        DUE.fails(Due.BOUNDS, () -> x.cut(-1));
        DUE.is(0, x.cut(0));
        DUE.fails(Due.BOUNDS, () -> x.cut(0));
        cutFromMany();
    }

    /** All that a link is moves as those behind the cut one come nearer. */
    private static void cutFromMany() {
        for (int gone = 0; gone < 4; gone++) {
            PulseMeadow x = new PulseMeadow();
            for (int i = 0; i < 8; i++) {
                x.beater(i, 50, i < 4 ? 49 - 3 * i : 0, 0);
            }
            for (int i = 0; i < 4; i++) {
                x.link(i, 7 - i, 1 + i, 2 + i);
            }
            DUE.is(3, x.cut(gone));
            x.run(1);
            for (int i = 4; i < 8; i++) {
                DUE.is(i == 7 && gone != 0 ? 2 : 0, x.waiting(i));
            }
            x.run(19);
            for (int i = 0; i < 4; i++) {
                DUE.is(i == gone ? 20 : 22 + i, x.phase(7 - i));
                DUE.is(3 * i + 1, x.last(i));
            }
            x.beater(0, 2, 1, 0);
            DUE.is(3, x.link(0, 9, 30, 1));
        }
        // When a signal comes tells the delay.
        PulseMeadow y = new PulseMeadow();
        y.beater(0, 2, 1, 0);
        y.beater(1, 90, 0, 0);
        y.link(0, 1, 1, 1);
        y.link(0, 1, 5, 2);
        y.link(0, 1, 9, 4);
        y.cut(0);
        y.run(1);
        DUE.is(6, y.waiting(1));
        y.cut(1);
        y.cut(0);
        y.run(4);
        DUE.is(6, y.waiting(1));
        y.run(1);
        DUE.is(4, y.waiting(1));
        y.run(3);
        DUE.is(4, y.waiting(1));
        y.run(1);
        DUE.is(0, y.waiting(1));
    }

    /** Waiting tells, after all flashed at once, which links there are to a place. */
    private static String arrivals(char kind, int beaters) {
        PulseMeadow x = new PulseMeadow();
        for (int i = 0; i < beaters; i++) {
            x.beater(2 * i, 2, 1, 0);
        }
        StringBuilder text = new StringBuilder();
        text.append(x.net(kind, 3, 2)).append(':');
        x.run(1);
        for (int i = 0; i < beaters; i++) {
            text.append(' ').append(x.waiting(2 * i) / 2);
        }
        return text.toString();
    }

    /** Only the beater of that place flashes: which links go out from it. */
    private static String from(char kind, int place) {
        PulseMeadow x = new PulseMeadow();
        for (int i = 1; i < 5; i++) {
            x.beater(i, 9, i == place ? 8 : 0, 0);
        }
        x.net(kind, 1, 1);
        x.run(1);
        StringBuilder text = new StringBuilder();
        for (int i = 1; i < 5; i++) {
            text.append(x.waiting(i));
        }
        return text.toString();
    }

    private static void net() {
        DUE.promise(9, "net");
        DUE.is("4: 1 1 1 1", arrivals('r', 4));
        DUE.is("3: 0 1 1 1", arrivals('l', 4));
        DUE.is("6: 3 1 1 1", arrivals('h', 4));
        DUE.is("12: 3 3 3 3", arrivals('a', 4));
        DUE.is("2: 1 1", arrivals('r', 2));
        DUE.is("1: 0 1", arrivals('l', 2));
        DUE.is("2: 1 1", arrivals('h', 2));
        DUE.is("2: 1 1", arrivals('a', 2));
        DUE.is("56: 7 7 7 7 7 7 7 7", arrivals('a', 8));
        DUE.is("0100", from('r', 1));
        DUE.is("1000", from('r', 4));
        DUE.is("0000", from('l', 4));
        DUE.is("0111", from('h', 1));
        DUE.is("1000", from('h', 3));
        DUE.is("1011", from('a', 2));
        numbersOfNets();
        wrongNets();
    }

    /** Links are numbered in the order in which the net gives them. */
    private static void numbersOfNets() {
        PulseMeadow x = new PulseMeadow();
        for (int i = 0; i < 3; i++) {
            x.beater(i, 2, 1, 0);
        }
        x.net('h', 1, 1);
        x.cut(1);
        x.run(1);
        DUE.is(1, x.waiting(0));
        DUE.is(1, x.waiting(1));
        DUE.is(1, x.waiting(2));
        PulseMeadow y = new PulseMeadow();
        for (int i = 0; i < 3; i++) {
            y.beater(i, 2, 1, 0);
        }
        y.net('a', 1, 1);
        y.cut(2);
        y.run(1);
        DUE.is(1, y.waiting(0));
        DUE.is(2, y.waiting(1));
        DUE.is(2, y.waiting(2));
    }

    private static void wrongNets() {
        PulseMeadow x = new PulseMeadow();
        x.link(1, 2, 3, 4);
        x.beater(0, 3, 2, 0);
        DUE.fails(Due.UNSUPPORTED, () -> x.net('r', 1, 1));
        DUE.fails(Due.ARGUMENT, () -> x.net('x', 1, 1));
        for (int i = 0; i < 9; i++) {
            x.beater(i, 3, 2, 0);
        }
        DUE.fails(Due.UNSUPPORTED, () -> x.net('a', 1, 1));
        DUE.fails(Due.ARGUMENT, () -> x.net('a', 0, 1));
        DUE.fails(Due.ARGUMENT, () -> x.net('r', 31, 1));
        DUE.fails(Due.ARGUMENT, () -> x.net('r', 1, 0));
        DUE.fails(Due.ARGUMENT, () -> x.net('r', 1, 10));
        DUE.fails(Due.ARGUMENT, () -> x.net('R', 1, 1));
        x.run(1);
        DUE.is(4, x.waiting(2));
        for (int i = 9; i < 16; i++) {
            x.beater(i, 3, 2, 0);
        }
        DUE.is(30, x.net('h', 1, 1));
        DUE.is(16, x.net('r', 1, 1));
        DUE.is(15, x.net('l', 1, 1));
        DUE.is(4, x.waiting(2));
    }

    private static void run() {
        DUE.promise(10, "run");
        PulseMeadow x = new PulseMeadow();
        DUE.is(0, x.run(500));
        x.beater(0, 5, 0, 0);
        x.beater(1, 2, 0, 0);
        DUE.is(7, x.run(10));
        DUE.is(350, x.run(500));
        DUE.fails(Due.ARGUMENT, () -> x.run(0));
        DUE.fails(Due.ARGUMENT, () -> x.run(501));
        DUE.fails(Due.ARGUMENT, () -> x.run(Integer.MIN_VALUE));
        DUE.is(1010, x.tick());
    }

    private static void tickAndFlashes() {
        DUE.promise(11, "tick");
        PulseMeadow x = new PulseMeadow();
        x.beater(4, 7, 5, 0);
        x.run(1);
        DUE.is(1, x.tick());
        x.run(9);
        DUE.is(10, x.tick());
        DUE.promise(12, "flashes");
        DUE.is(2, x.flashes(4));
        DUE.fails(Due.BOUNDS, () -> x.flashes(20));
        DUE.fails(Due.NO_ELEMENT, () -> x.flashes(19));
        DUE.promise(13, "last");
        DUE.is(9, x.last(4));
        DUE.fails(Due.BOUNDS, () -> x.last(-1));
        DUE.fails(Due.NO_ELEMENT, () -> x.last(5));
        x.beater(4, 7, 5, 0);
        DUE.is(0, x.flashes(4));
        DUE.is(0, x.last(4));
        x.run(2);
        DUE.is(12, x.last(4));
    }

    private static void waiting() {
        DUE.promise(14, "waiting");
        PulseMeadow x = new PulseMeadow();
        x.beater(0, 2, 1, 0);
        x.link(0, 7, 30, 9);
        x.link(0, 7, 1, 4);
        x.run(1);
        DUE.fails(Due.NO_ELEMENT, () -> x.waiting(7));
        x.beater(7, 99, 0, 98);
        DUE.is(13, x.waiting(7));
        x.run(1);
        DUE.is(9, x.waiting(7));
        x.beater(7, 99, 0, 0);
        DUE.is(9, x.waiting(7));
        x.cut(1);
        x.cut(0);
        x.run(28);
        DUE.is(9, x.waiting(7));
        DUE.is(28, x.phase(7));
        x.run(1);
        DUE.is(0, x.waiting(7));
        DUE.is(38, x.phase(7));
        DUE.fails(Due.BOUNDS, () -> x.waiting(20));
        DUE.fails(Due.NO_ELEMENT, () -> x.waiting(16));
    }

    private static void push() {
        DUE.promise(27, "push");
        PulseMeadow x = new PulseMeadow();
        x.beater(2, 10, 4, 0);
        DUE.is(7, x.push(2, 3));
        DUE.is(9, x.push(2, 99));
        DUE.is(0, x.push(2, -99));
        DUE.is(0, x.push(2, 0));
        DUE.is(0, x.flashes(2));
        DUE.fails(Due.BOUNDS, () -> x.push(20, 100));
        DUE.fails(Due.ARGUMENT, () -> x.push(3, 100));
        DUE.fails(Due.ARGUMENT, () -> x.push(2, -100));
        DUE.fails(Due.NO_ELEMENT, () -> x.push(3, 1));
        DUE.is(0, x.phase(2));
    }

    private static void quietTimes() {
        DUE.promise(10, "run, quiet times");
        for (int phase = 0; phase < 20; phase++) {
            PulseMeadow x = new PulseMeadow();
            x.beater(0, 2, 1, 0);
            x.beater(1, 40, phase, 10);
            x.link(0, 1, 1, 3);
            x.run(2);
            DUE.is(phase + 1 < 10 ? phase + 2 : phase + 5, x.phase(1));
        }
    }

    private static void answersByQuarter() {
        DUE.promise(10, "run, answers");
        int[] answers = {-9, 2, 0, -1};
        for (int phase = 0; phase < 6; phase++) {
            PulseMeadow x = new PulseMeadow();
            x.beater(0, 2, 1, 0);
            x.beater(1, 7, phase, 0);
            for (int i = 0; i < 4; i++) {
                x.answer(1, i, answers[i]);
            }
            x.link(0, 1, 1, 2);
            x.run(2);
            int ahead = phase + 1;
            int pulled = Math.max(0, ahead + 2 * answers[4 * ahead / 7]) + 1;
            DUE.is(pulled >= 7 ? 0 : pulled, x.phase(1));
        }
    }

    /** What comes at once is one sum: by parts the answers would be those of two quarters. */
    private static void oneEvent() {
        DUE.promise(10, "run, one event");
        PulseMeadow x = new PulseMeadow();
        x.beater(0, 2, 1, 0);
        x.beater(1, 2, 1, 0);
        x.beater(2, 40, 8, 0);
        x.answer(2, 1, 9);
        x.link(0, 2, 1, 1);
        x.link(1, 2, 1, 1);
        x.run(2);
        DUE.is(12, x.phase(2));
        // What pulls a phase far beyond the top is lost in the flash.
        PulseMeadow y = new PulseMeadow();
        y.beater(0, 2, 1, 0);
        y.beater(1, 9, 7, 0);
        y.link(0, 1, 1, 9);
        DUE.is(1, y.run(1));
        DUE.is(1, y.run(1));
        DUE.is(0, y.phase(1));
        DUE.is(1, y.flashes(1));
        // A signal that goes out in a tick comes in a later one, whoever is first.
        PulseMeadow z = new PulseMeadow();
        z.beater(0, 5, 4, 0);
        z.beater(1, 5, 4, 0);
        z.net('a', 1, 2);
        DUE.is(2, z.run(1));
        DUE.is(0, z.phase(1));
        DUE.is(0, z.run(1));
        DUE.is(3, z.phase(0));
        DUE.is(3, z.phase(1));
    }
}
