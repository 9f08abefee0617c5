/** Promises 31 to 38 and 41: each sentence that names a boundary, for marks, swings, and the sum over all. */
public final class MarkAndSwingEdgesTest {
    private static final Due DUE = new Due();

    public static void main(String[] args) {
        ticksOfMarks();
        twentyMarks();
        marksWipedAway();
        fitsWithFewMarks();
        periodsThatFit();
        everyMarkCounts();
        guessesAtTheEdges();
        beamAtTheEdges();
        swaysAtTheEdges();
        noSwingsToFour();
        stepInFloats();
        meanFromTheFirstOn();
        anglesAtTheEdges();
        energyAtTheEdges();
        energyFromTheFirstOn();
        partsOfTheSum();
        DUE.end();
    }

    private static PulseMeadow marked(int... ticks) {
        PulseMeadow x = new PulseMeadow();
        for (int tick : ticks) {
            x.mark(tick);
        }
        return x;
    }

    private static void ticksOfMarks() {
        DUE.promise(31, "the tick of a mark is 0 to 9999");
        PulseMeadow x = new PulseMeadow();
        DUE.is(1, x.mark(0));
        DUE.fails(Due.ARGUMENT, () -> x.mark(-1));
        DUE.is(2, x.mark(9999));
        DUE.fails(Due.ARGUMENT, () -> x.mark(10000));
        DUE.fails(Due.ARGUMENT, () -> x.mark(Integer.MIN_VALUE));
        DUE.fails(Due.ARGUMENT, () -> x.mark(Integer.MAX_VALUE));
        DUE.is(3, x.mark(0));
        DUE.is(3, x.wipe());
    }

    private static void twentyMarks() {
        DUE.promise(31, "at most 20 marks");
        PulseMeadow x = new PulseMeadow();
        for (int i = 1; i <= 20; i++) {
            DUE.is(i, x.mark(500 * i - 1));
        }
        DUE.fails(Due.STATE, () -> x.mark(0));
        DUE.fails(Due.STATE, () -> x.mark(9999));
        DUE.fails(Due.ARGUMENT, () -> x.mark(10000));
        DUE.fails(Due.ARGUMENT, () -> x.mark(-1));
        // The 21st one, which does not fit by 50, was not taken.
        DUE.is(50, x.guess(0));
        DUE.is(20, x.wipe());
        for (int i = 1; i <= 20; i++) {
            DUE.is(i, x.mark(7));
        }
        DUE.fails(Due.STATE, () -> x.mark(7));
    }

    private static void marksWipedAway() {
        DUE.promise(32, "wipe takes all marks away, none, one or 20");
        PulseMeadow x = new PulseMeadow();
        DUE.is(0, x.wipe());
        x.mark(3);
        DUE.is(1, x.wipe());
        DUE.is(0, x.wipe());
        for (int i = 0; i < 20; i++) {
            x.mark(i);
        }
        DUE.is(0, x.fits());
        DUE.is(20, x.wipe());
        DUE.is(98, x.fits());
        DUE.fails(Due.NO_ELEMENT, () -> x.guess(0));
        // What was told ahead of it counts no more.
        x.mark(100);
        x.mark(200);
        DUE.is(50, x.guess(0));
    }

    private static void fitsWithFewMarks() {
        DUE.promise(33, "the rest of all marks is the same one: of none, of one, of 20 alike");
        DUE.is(98, marked().fits());
        DUE.is(98, marked(0).fits());
        DUE.is(98, marked(9999).fits());
        DUE.is(98, marked(9999, 9999).fits());
        DUE.is(98, marked(5, 5, 5, 5, 5, 5, 5, 5, 5, 5, 5, 5, 5, 5, 5, 5, 5, 5, 5, 5).fits());
    }

    private static void periodsThatFit() {
        DUE.promise(33, "a period, 2 to 99, fits");
        for (int apart = 0; apart < 300; apart++) {
            int due = 0;
            for (int period = 2; period <= 99; period++) {
                due += apart % period == 0 ? 1 : 0;
            }
            DUE.is(due, marked(9999 - apart, 9999).fits());
            DUE.is(due, marked(apart, 0).fits());
        }
        DUE.is(0, marked(0, 1).fits());
        DUE.is(1, marked(0, 2).fits());
        DUE.is(1, marked(1, 98).fits());
        DUE.is(0, marked(1, 102).fits());
        DUE.is(5, marked(0, 99).fits());
        DUE.is(7, marked(0, 100).fits());
    }

    private static void everyMarkCounts() {
        DUE.promise(33, "of all marks, from the first one to the 20th one");
        for (int other = 0; other < 20; other++) {
            int[] ticks = new int[20];
            java.util.Arrays.fill(ticks, 61);
            ticks[other] = 61 + 97;
            DUE.is(1, marked(ticks).fits());
            DUE.is(97, marked(ticks).guess(0));
            ticks[other] = 62;
            DUE.is(0, marked(ticks).fits());
        }
    }

    private static void guessesAtTheEdges() {
        DUE.promise(34, "0 for the greatest one, and so on; fewer than 2 marks tell nothing");
        DUE.fails(Due.NO_ELEMENT, () -> marked().guess(0));
        DUE.fails(Due.NO_ELEMENT, () -> marked(5).guess(0));
        DUE.fails(Due.NO_ELEMENT, () -> marked(5).guess(97));
        PulseMeadow alike = marked(5, 5);
        for (int index = 0; index < 98; index++) {
            DUE.is(99 - index, alike.guess(index));
        }
        for (int index : new int[] {98, 99, Integer.MAX_VALUE, -1, Integer.MIN_VALUE}) {
            DUE.fails(Due.NO_ELEMENT, () -> alike.guess(index));
        }
        PulseMeadow x = marked(0, 99);
        int[] due = {99, 33, 11, 9, 3};
        for (int index = 0; index < due.length; index++) {
            DUE.is(due[index], x.guess(index));
        }
        DUE.fails(Due.NO_ELEMENT, () -> x.guess(due.length));
        DUE.fails(Due.NO_ELEMENT, () -> x.guess(-1));
        DUE.is(2, marked(0, 2).guess(0));
        DUE.fails(Due.NO_ELEMENT, () -> marked(0, 1).guess(0));
        DUE.fails(Due.NO_ELEMENT, () -> marked(0, 101).guess(0));
    }

    private static void beamAtTheEdges() {
        DUE.promise(35, "stiffness 1 to 99, 10 at first, pull 0 to 99, 0 at first");
        PulseMeadow x = new PulseMeadow();
        DUE.is(10, x.beam(1, 0));
        DUE.is(1, x.beam(99, 99));
        DUE.is(99, x.beam(50, 1));
        DUE.fails(Due.ARGUMENT, () -> x.beam(0, 5));
        DUE.fails(Due.ARGUMENT, () -> x.beam(100, 5));
        DUE.fails(Due.ARGUMENT, () -> x.beam(5, -1));
        DUE.fails(Due.ARGUMENT, () -> x.beam(5, 100));
        DUE.is(50, x.beam(50, 1));
        // Both count from the next step on, the greatest ones too; a refused pull is none.
        for (int[] beam : new int[][] {{1, 0}, {99, 99}, {1, 99}, {99, 0}}) {
            PulseMeadow y = new PulseMeadow();
            y.swing(16, 1000);
            y.swing(19, -500);
            y.beam(beam[0], beam[1]);
            DUE.fails(Due.ARGUMENT, () -> y.beam(7, 100));
            y.sway(1);
            float mean = (1.0f + -0.5f) / 2.0f;
            DUE.is(Float.floatToIntBits(stepped(1.0f, mean, beam)), y.angleBits(16));
            DUE.is(Float.floatToIntBits(stepped(-0.5f, mean, beam)), y.angleBits(19));
        }
    }

    /** The angle behind the first step. */
    private static float stepped(float angle, float mean, int[] beam) {
        float speed = 0.0f + 0.01f * ((float) beam[1] * (mean - angle) - (float) beam[0] * angle);
        return angle + 0.01f * speed;
    }

    private static void swaysAtTheEdges() {
        DUE.promise(36, "sway takes 1 to 500 steps");
        PulseMeadow x = new PulseMeadow();
        x.swing(16, 1000);
        DUE.fails(Due.ARGUMENT, () -> x.sway(0));
        DUE.fails(Due.ARGUMENT, () -> x.sway(-1));
        DUE.fails(Due.ARGUMENT, () -> x.sway(501));
        DUE.is(0x3f800000, x.angleBits(16));
        DUE.is(1, x.sway(500));
        PulseMeadow y = new PulseMeadow();
        y.swing(16, 1000);
        for (int i = 0; i < 500; i++) {
            DUE.is(1, y.sway(1));
        }
        DUE.is(y.angleBits(16), x.angleBits(16));
        DUE.is(0, x.tick());
    }

    private static void noSwingsToFour() {
        DUE.promise(36, "how many swings there are, none to four");
        PulseMeadow x = Meadows.row(16, 9);
        for (int count = 0; count <= 4; count++) {
            DUE.is(count, x.sway(1));
            DUE.is(count, x.sway(500));
            if (count < 4) {
                x.swing(19 - count, 100);
            }
        }
        x.swing(16, 100);
        DUE.is(4, x.sway(1));
        for (int place = 0; place < 16; place++) {
            DUE.is(place % 9, x.phase(place));
        }
    }

    private static void compareSteps(int[] angles, int stiffness, int pull, int steps) {
        PulseMeadow x = new PulseMeadow();
        float[] angle = new float[4];
        float[] speed = new float[4];
        for (int i = 3; i >= 0; i--) {
            x.swing(16 + i, angles[i]);
            angle[i] = (float) angles[i] / 1000.0f;
        }
        x.beam(stiffness, pull);
        for (int step = 0; step < steps; step++) {
            x.sway(1);
            float mean = (angle[0] + angle[1] + angle[2] + angle[3]) / 4.0f;
            for (int i = 0; i < 4; i++) {
                speed[i] = speed[i] + 0.01f * ((float) pull * (mean - angle[i]) - (float) stiffness * angle[i]);
            }
            for (int i = 0; i < 4; i++) {
                angle[i] = angle[i] + 0.01f * speed[i];
                DUE.is(Float.floatToIntBits(angle[i]), x.angleBits(16 + i));
            }
            double energy = 0.0;
            for (int i = 0; i < 4; i++) {
                double v = speed[i];
                double a = angle[i];
                energy = energy + (0.5 * (v * v) + 0.5 * (double) stiffness * (a * a));
            }
            DUE.is(Double.doubleToLongBits(energy), x.energyBits());
        }
    }

    private static void stepInFloats() {
        DUE.promise(36, "in a step all speeds change first, by the mean of all angles ahead of it, all in floats");
        compareSteps(new int[] {1000, 1000, 1000, 1000}, 99, 99, 50);
        compareSteps(new int[] {-1000, 1000, -1000, 1000}, 1, 99, 50);
        compareSteps(new int[] {0, 0, 0, 1}, 1, 99, 50);
        compareSteps(new int[] {0, 0, 0, 0}, 99, 99, 50);
        compareSteps(new int[] {777, -333, 111, 5}, 10, 0, 50);
    }

    private static void meanFromTheFirstOn() {
        DUE.promise(36, "the mean is the sum of all angles, from the first one on");
        // In floats another order of these sums is another mean.
        int[] angles = {1000, 1, 3, -999};
        float forth = ((float) angles[0] / 1000.0f + (float) angles[1] / 1000.0f + (float) angles[2] / 1000.0f) + (float) angles[3] / 1000.0f;
        float back = ((float) angles[3] / 1000.0f + (float) angles[2] / 1000.0f + (float) angles[1] / 1000.0f) + (float) angles[0] / 1000.0f;
        DUE.is(false, forth == back);
        compareSteps(angles, 1, 99, 20);
        compareSteps(new int[] {-999, 3, 1, 1000}, 1, 99, 20);
    }

    private static void anglesAtTheEdges() {
        DUE.promise(37, "no swing is there; the bits of the least and the greatest angle, and of 0");
        PulseMeadow x = new PulseMeadow();
        for (int place = 0; place < 20; place++) {
            int p = place;
            DUE.fails(Due.NO_ELEMENT, () -> x.angleBits(p));
        }
        DUE.fails(Due.BOUNDS, () -> x.angleBits(20));
        DUE.fails(Due.BOUNDS, () -> x.angleBits(-1));
        PulseMeadow full = Meadows.row(16, 9);
        for (int place = 0; place < 16; place++) {
            int p = place;
            DUE.fails(Due.NO_ELEMENT, () -> full.angleBits(p));
        }
        x.swing(16, -1000);
        x.swing(17, 0);
        x.swing(18, 1);
        x.swing(19, 1000);
        DUE.is(0xbf800000, x.angleBits(16));
        DUE.is(0, x.angleBits(17));
        DUE.is(0x3a83126f, x.angleBits(18));
        DUE.is(0x3f800000, x.angleBits(19));
    }

    private static void energyAtTheEdges() {
        DUE.promise(38, "the energy without swings, and at the least and the greatest stiffness");
        PulseMeadow x = Meadows.row(16, 9);
        DUE.is(0L, x.energyBits());
        x.swing(17, 0);
        DUE.is(0L, x.energyBits());
        x.swing(17, -1000);
        DUE.is(Double.doubleToLongBits(5.0), x.energyBits());
        // The stiffness is that of now, not that of the last step; the pull is no part of it.
        x.beam(1, 99);
        DUE.is(Double.doubleToLongBits(0.5), x.energyBits());
        x.beam(99, 0);
        DUE.is(Double.doubleToLongBits(49.5), x.energyBits());
        x.swing(17, 1);
        double small = 1.0f / 1000.0f;
        DUE.is(Double.doubleToLongBits(49.5 * (small * small)), x.energyBits());
    }

    private static void energyFromTheFirstOn() {
        DUE.promise(38, "the energy is the sum from the first swing on, in doubles");
        int[] angles = {1000, 37, -411, 3};
        PulseMeadow x = new PulseMeadow();
        double sum = 0.0;
        for (int i = 0; i < 4; i++) {
            x.swing(16 + i, angles[i]);
            double a = (float) angles[i] / 1000.0f;
            sum += 0.5 * 0.0 + 5.0 * (a * a);
            DUE.is(Double.doubleToLongBits(sum), x.energyBits());
        }
    }

    private static void partsOfTheSum() {
        DUE.promise(41, "7 at first, then the beaters' parts, the swings', the tick");
        DUE.is(7L * 31, new PulseMeadow().checksum());
        PulseMeadow ticked = new PulseMeadow();
        ticked.run(500);
        DUE.is(7L * 31 + 500, ticked.checksum());
        PulseMeadow one = Meadows.beaters(99, 98);
        DUE.is(((7L * 31 + 98) * 31 * 31) * 31, one.checksum());
        PulseMeadow swung = new PulseMeadow();
        swung.swing(19, -1000);
        DUE.is((7L * 31 + 0xbf800000) * 31, swung.checksum());
        // Full: the sum goes round beyond a long.
        PulseMeadow full = Meadows.full();
        long due = 7;
        for (int place = 0; place < 16; place++) {
            due = 31 * due + full.phase(place);
            due = 31 * due + full.flashes(place);
            due = 31 * due + full.waiting(place);
        }
        for (int place = 16; place < 20; place++) {
            due = 31 * due + full.angleBits(place);
        }
        due = 31 * due + full.tick();
        DUE.is(due, full.checksum());
        // What is under way to an empty place, noise, z, marks and the beam are no part of it.
        PulseMeadow x = Meadows.beaters(9, 8);
        x.link(0, 5, 30, 9);
        x.run(1);
        x.mark(3);
        x.seed(5);
        x.noise(5);
        x.beam(3, 3);
        DUE.is((((7L * 31) * 31 + 1) * 31) * 31 + 1, x.checksum());
    }
}
