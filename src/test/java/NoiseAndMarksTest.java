/** Promises 29 to 34: noise by lots, and marks of a hidden beater. */
public final class NoiseAndMarksTest {
    private static final Due DUE = new Due();

    public static void main(String[] args) {
        noise();
        seed();
        lots();
        mark();
        fits();
        guess();
        DUE.end();
    }

    private static void noise() {
        DUE.promise(29, "noise");
        PulseMeadow x = new PulseMeadow();
        DUE.is(0, x.noise(99));
        DUE.is(99, x.noise(5));
        DUE.fails(Due.ARGUMENT, () -> x.noise(100));
        DUE.fails(Due.ARGUMENT, () -> x.noise(-1));
        DUE.is(5, x.noise(0));
    }

    private static void seed() {
        DUE.promise(30, "seed");
        PulseMeadow x = new PulseMeadow();
        DUE.is(1, x.seed(2147483646));
        DUE.is(2147483646, x.seed(7));
        DUE.fails(Due.ARGUMENT, () -> x.seed(0));
        DUE.fails(Due.ARGUMENT, () -> x.seed(Integer.MAX_VALUE));
        DUE.fails(Due.ARGUMENT, () -> x.seed(-5));
        DUE.is(7, x.seed(7));
    }

    /** Lots are drawn for each beater in order, in each tick, if there is noise. */
    private static void lots() {
        DUE.promise(29, "noise, lots");
        PulseMeadow x = new PulseMeadow();
        x.beater(9, 99, 0, 0);
        x.beater(3, 99, 0, 98);
        x.run(5);
        DUE.is(1, x.seed(1));
        x.noise(40);
        long z = 1;
        int three = 5;
        int nine = 5;
        for (int i = 0; i < 30; i++) {
            z = z * 48271 % 2147483647;
            three += z % 100 < 40 ? 2 : 1;
            z = z * 48271 % 2147483647;
            nine += z % 100 < 40 ? 2 : 1;
        }
        x.run(30);
        exactLots();
        DUE.is(three, x.phase(3));
        DUE.is(nine, x.phase(9));
        DUE.is((int) z, x.seed(1));
    }

    /** Less than the noise, not as much: seeds before which each rest by 100 comes. */
    private static void exactLots() {
        for (int seed = 1; seed < 300; seed++) {
            int rest = (int) (48271L * seed % 2147483647 % 100);
            PulseMeadow x = new PulseMeadow();
            x.beater(0, 9, 0, 0);
            x.seed(seed);
            x.noise(Math.max(1, rest));
            x.run(1);
            DUE.is(rest == 0 ? 2 : 1, x.phase(0));
            x.seed(seed);
            x.noise(Math.min(99, rest + 1));
            x.push(0, -9);
            x.run(1);
            DUE.is(rest == 99 ? 1 : 2, x.phase(0));
        }
    }

    private static void mark() {
        DUE.promise(31, "mark");
        PulseMeadow x = new PulseMeadow();
        DUE.is(1, x.mark(0));
        DUE.is(2, x.mark(9999));
        DUE.fails(Due.ARGUMENT, () -> x.mark(-1));
        DUE.fails(Due.ARGUMENT, () -> x.mark(10000));
        for (int i = 3; i <= 20; i++) {
            DUE.is(i, x.mark(5));
        }
        DUE.fails(Due.STATE, () -> x.mark(5));
        DUE.fails(Due.ARGUMENT, () -> x.mark(10000));
        DUE.promise(32, "wipe");
        DUE.is(20, x.wipe());
        DUE.is(0, x.wipe());
        DUE.is(1, x.mark(5));
    }

    private static void fits() {
        DUE.promise(33, "fits");
        PulseMeadow x = new PulseMeadow();
        DUE.is(98, x.fits());
        x.mark(9999);
        DUE.is(98, x.fits());
        x.mark(9999);
        DUE.is(98, x.fits());
        x.mark(9999 - 99);
        DUE.is(5, x.fits());
        x.mark(9999 - 33);
        DUE.is(3, x.fits());
        x.mark(9998);
        DUE.is(0, x.fits());
    }

    private static void guess() {
        DUE.promise(34, "guess");
        PulseMeadow x = new PulseMeadow();
        DUE.fails(Due.NO_ELEMENT, () -> x.guess(0));
        x.mark(100);
        DUE.fails(Due.NO_ELEMENT, () -> x.guess(0));
        x.mark(100);
        DUE.is(99, x.guess(0));
        DUE.is(2, x.guess(97));
        DUE.fails(Due.NO_ELEMENT, () -> x.guess(98));
        DUE.fails(Due.NO_ELEMENT, () -> x.guess(-1));
        x.mark(112);
        int[] due = {12, 6, 4, 3, 2};
        for (int i = 0; i < due.length; i++) {
            DUE.is(due[i], x.guess(i));
        }
        DUE.fails(Due.NO_ELEMENT, () -> x.guess(5));
    }
}
