/** Promises 35 to 38: swings on a beam, in floats as Java has them. */
public final class SwingsTest {
    private static final Due DUE = new Due();

    private final PulseMeadow x = new PulseMeadow();
    private final ReferenceMeadow y = new ReferenceMeadow();

    public static void main(String[] args) {
        beam();
        sway();
        bits();
        for (int pull : new int[] {0, 1, 99}) {
            new SwingsTest().driven(99, 1, pull, true);
            new SwingsTest().driven(99, 1, pull, false);
        }
        for (int pull : new int[] {0, 1, 99}) {
            new SwingsTest().drivenApart(pull);
        }
        new SwingsTest().damped();
        DUE.end();
    }

    private static void beam() {
        DUE.promise(35, "beam");
        PulseMeadow x = new PulseMeadow();
        DUE.is(10, x.beam(99, 99));
        DUE.is(99, x.beam(1, 0));
        DUE.fails(Due.ARGUMENT, () -> x.beam(0, 0));
        DUE.fails(Due.ARGUMENT, () -> x.beam(100, 0));
        DUE.fails(Due.ARGUMENT, () -> x.beam(5, -1));
        DUE.fails(Due.ARGUMENT, () -> x.beam(5, 100));
        DUE.is(1, x.beam(3, 3));
    }

    private static void sway() {
        DUE.promise(36, "sway");
        PulseMeadow x = new PulseMeadow();
        DUE.is(0, x.sway(500));
        x.swing(18, 500);
        DUE.is(1, x.sway(1));
        float speed = 0f + 0.01f * (0f - 10f * 0.5f);
        float angle = 0.5f + 0.01f * speed;
        DUE.is(Float.floatToIntBits(angle), x.angleBits(18));
        x.swing(16, -500);
        DUE.is(2, x.sway(500));
        DUE.fails(Due.ARGUMENT, () -> x.sway(0));
        DUE.fails(Due.ARGUMENT, () -> x.sway(501));
        // One put anew has no speed.
        x.swing(18, 0);
        x.swing(16, 0);
        x.sway(100);
        DUE.is(0, x.angleBits(18));
        DUE.is(0L, x.energyBits());
    }

    private static void bits() {
        DUE.promise(37, "angleBits");
        PulseMeadow x = new PulseMeadow();
        for (int angle = -1000; angle <= 1000; angle++) {
            x.swing(17, angle);
            if (x.angleBits(17) != Float.floatToIntBits((float) angle / 1000.0f)) {
                DUE.is(angle, "the bits of another one");
            }
        }
        DUE.fails(Due.BOUNDS, () -> x.angleBits(20));
        DUE.fails(Due.BOUNDS, () -> x.angleBits(-1));
        DUE.fails(Due.NO_ELEMENT, () -> x.angleBits(16));
        DUE.fails(Due.NO_ELEMENT, () -> x.angleBits(0));
        DUE.promise(38, "energyBits");
        x.swing(17, 1000);
        DUE.is(Double.doubleToLongBits(5.0), x.energyBits());
        x.swing(19, -300);
        double small = -0.3f;
        DUE.is(Double.doubleToLongBits(5.0 + 5.0 * (small * small)), x.energyBits());
    }

    private void put(int place, int angle) {
        x.swing(place, angle);
        y.swing(place, angle);
    }

    private void sway(int stiffness, int pull, int steps) {
        x.beam(stiffness, pull);
        y.beam(stiffness, pull);
        DUE.is(y.sway(steps), x.sway(steps));
    }

    private void compare() {
        for (int place = 16; place < 20; place++) {
            DUE.is(y.angleBits(place), x.angleBits(place));
        }
        DUE.is(y.energyBits(), x.energyBits());
    }

    /** A beam that is made stiff and slack in turn drives swings out of all bounds. */
    private void driven(int stiff, int slack, int pull, boolean step) {
        DUE.promise(36, "sway, driven");
        put(16, 1000);
        put(17, step ? 3 : -400);
        put(18, 0);
        put(19, step ? 7 : 1000);
        for (int i = 0; i < 35; i++) {
            sway(stiff, pull, 16);
            compare();
            sway(slack, pull, step ? 157 - pull : 157);
            compare();
        }
        // One by one, where the first products are too great, then the sums, then all of it.
        for (int i = 0; i < 2400; i++) {
            sway(i / 173 * 173 + 16 > i ? stiff : slack, pull, 1);
            compare();
        }
    }

    /** Two swings go out of all bounds at once, one to each side, while a third one rests between them. */
    private void drivenApart(int pull) {
        DUE.promise(36, "sway, driven apart");
        put(16, 1000);
        put(17, -1000);
        put(18, 0);
        put(19, 0);
        // Slack while they go outward, stiff while they come back.
        float before = 0;
        for (int i = 0; i < 30000 && isFinite(16); i++) {
            float angle = Float.intBitsToFloat(y.angleBits(16));
            boolean outward = angle > 0 == angle > before;
            before = angle;
            sway(outward ? 1 : 99, pull, 1);
        }
        compare();
        DUE.is(false, isFinite(16));
        DUE.is(true, isFinite(18) && !isFinite(17));
        for (int i = 0; i < 3; i++) {
            sway(50, pull, 1);
            compare();
        }
        // One that is put anew beside them is lost with the next step.
        put(19, 500);
        compare();
        sway(50, pull, 1);
        compare();
        put(16, 3);
        put(17, 4);
        put(18, 5);
        put(19, 6);
        compare();
        sway(50, pull, 20);
        compare();
        DUE.is(true, isFinite(16) && isFinite(19));
    }

    private boolean isFinite(int place) {
        return Float.isFinite(Float.intBitsToFloat(y.angleBits(place)));
    }

    /** The other way round, until nothing is left that a float holds. */
    private void damped() {
        DUE.promise(36, "sway, damped");
        for (int place = 16; place < 20; place++) {
            put(place, 1);
        }
        for (int i = 0; i < 120; i++) {
            float before = Float.intBitsToFloat(y.angleBits(16));
            for (int j = 0; j < 500; j++) {
                float angle = Float.intBitsToFloat(y.angleBits(16));
                boolean outward = angle > 0 == angle > before;
                before = angle;
                sway(outward ? 99 : 1, 0, 1);
            }
            compare();
        }
        float left = Float.intBitsToFloat(y.angleBits(16));
        DUE.is(true, left < 1e-38f && left > -1e-38f);
    }
}
