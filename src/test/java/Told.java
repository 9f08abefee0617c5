import java.util.NoSuchElementException;
import java.util.function.Supplier;

/**
 * All that a meadow answers, and then what it does, as one text: two meadows that tell the same
 * stand the same. The meadow is used up by it, in fewer than 450 calls.
 */
final class Told {
    private final StringBuilder text = new StringBuilder();
    private final PulseMeadow x;

    private Told(PulseMeadow x) {
        this.x = x;
    }

    static String of(PulseMeadow x) {
        Told told = new Told(x);
        told.asWhole();
        told.byPlaces();
        told.setAnew();
        told.signals();
        told.links();
        return told.text.toString();
    }

    private void tell(Supplier<Object> call) {
        try {
            text.append(call.get());
        } catch (RuntimeException e) {
            text.append(e.getClass().getSimpleName());
        }
        text.append(' ');
    }

    private void asWhole() {
        tell(x::tick);
        tell(x::checksum);
        tell(x::energyBits);
        tell(x::fits);
        tell(() -> x.guess(0));
        tell(x::meanPhase);
        tell(() -> x.noise(0));
        tell(x::cycle);
        tell(x::lead);
        tell(x::groups);
        tell(x::islands);
        tell(x::isTrue);
    }

    private void byPlaces() {
        for (int place = 0; place < 16; place++) {
            int p = place;
            tell(() -> x.phase(p));
            tell(() -> x.flashes(p));
            tell(() -> x.last(p));
            tell(() -> x.waiting(p));
            tell(() -> x.strip(p));
        }
    }

    private void setAnew() {
        tell(() -> x.seed(1));
        tell(() -> x.sway(7));
        for (int place = 16; place < 20; place++) {
            int p = place;
            tell(() -> x.angleBits(p));
        }
        tell(() -> x.beam(10, 0));
        tell(x::wipe);
    }

    /** As time goes on, where a beater is put at each empty place, which takes what comes to it. */
    private void signals() {
        for (int place = 0; place < 16; place++) {
            if (!has(place)) {
                x.beater(place, 99, 0, 0);
            }
        }
        for (int tick = 0; tick < 31; tick++) {
            x.run(1);
            tell(x::checksum);
        }
        for (int place = 0; place < 16; place++) {
            for (int quarter = 0; quarter < 4; quarter++) {
                int p = place;
                int q = quarter;
                tell(() -> x.answer(p, q, 0));
            }
        }
    }

    private boolean has(int place) {
        try {
            return x.phase(place) >= 0;
        } catch (NoSuchElementException e) {
            return false;
        }
    }

    /** All flash at once: what is under way then tells the links. */
    private void links() {
        for (int place = 0; place < 16; place++) {
            int p = place;
            tell(() -> x.period(p, 99));
            x.beater(place, 2, 1, 0);
        }
        tell(() -> x.run(1));
        tell(x::checksum);
        int left = 60;
        while (left > 0) {
            left = cutFirst();
        }
        for (int tick = 0; tick < 30; tick++) {
            x.run(1);
            tell(x::checksum);
        }
    }

    private int cutFirst() {
        try {
            int left = x.cut(0);
            text.append(left).append(' ');
            return left;
        } catch (IndexOutOfBoundsException e) {
            return 0;
        }
    }
}
