/** Meadows that tests begin with. */
final class Meadows {
    private Meadows() {
    }

    /** Beaters at the places from 0 on, without quiet times. */
    static PulseMeadow beaters(int... periodsAndPhases) {
        PulseMeadow x = new PulseMeadow();
        for (int i = 0; i < periodsAndPhases.length; i += 2) {
            x.beater(i / 2, periodsAndPhases[i], periodsAndPhases[i + 1], 0);
        }
        return x;
    }

    /** So many beaters at the places from 0 on, all of that period, with phases one behind the other. */
    static PulseMeadow row(int beaters, int period) {
        PulseMeadow x = new PulseMeadow();
        for (int i = 0; i < beaters; i++) {
            x.beater(i, period, i % period, 0);
        }
        return x;
    }

    static PulseMeadow one() {
        return beaters(7, 3);
    }

    /** Beaters at 0, 1 and 4, swings at 16 and 18, two marks, signals under way, one of them to an empty place. */
    static PulseMeadow few() {
        PulseMeadow x = new PulseMeadow();
        x.beater(0, 10, 3, 2);
        x.beater(1, 7, 6, 0);
        x.beater(4, 9, 1, 5);
        x.answer(0, 2, -1);
        x.answer(4, 3, 2);
        x.link(0, 1, 3, 2);
        x.link(1, 4, 30, 9);
        x.link(4, 0, 1, 1);
        x.link(1, 9, 5, 3);
        x.swing(16, 700);
        x.swing(18, -200);
        x.beam(20, 5);
        x.sway(3);
        x.mark(3);
        x.mark(13);
        x.seed(77);
        x.run(16);
        return x;
    }

    static PulseMeadow noisy() {
        PulseMeadow x = few();
        x.noise(30);
        x.run(3);
        return x;
    }

    /** The way of these two is too long. */
    static PulseMeadow endless() {
        PulseMeadow x = beaters(97, 96, 98, 5);
        x.link(0, 7, 9, 2);
        x.run(2);
        return x;
    }

    static PulseMeadow endlessNoisy() {
        PulseMeadow x = endless();
        x.noise(5);
        return x;
    }

    static PulseMeadow emptyNoisy() {
        PulseMeadow x = new PulseMeadow();
        x.noise(99);
        return x;
    }

    static PulseMeadow nine() {
        PulseMeadow x = row(9, 5);
        x.link(8, 0, 7, 3);
        x.link(2, 15, 7, 3);
        x.run(6);
        return x;
    }

    /** Beaters and swings at all places, 60 links, 20 marks. */
    static PulseMeadow full() {
        PulseMeadow x = row(16, 12);
        for (int i = 0; i < 60; i++) {
            x.link(i % 16, (i + 1 + i / 16) % 16, 1 + i % 30, 1 + i % 2);
        }
        for (int place = 16; place < 20; place++) {
            x.swing(place, 150 * (place - 15));
        }
        for (int i = 0; i < 20; i++) {
            x.mark(60 * i + 7);
        }
        x.run(50);
        x.sway(2);
        return x;
    }

    /** The second one holds the first one at the phase 0 or 1 for ever. */
    static PulseMeadow held() {
        PulseMeadow x = beaters(50, 0, 2, 0);
        for (int quarter = 0; quarter < 4; quarter++) {
            x.answer(0, quarter, -9);
        }
        x.link(1, 0, 1, 9);
        return x;
    }
}
