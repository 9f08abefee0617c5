/** The three examples at the end of "Terms". */
public final class ExamplesTest {
    public static void main(String[] args) {
        Due due = new Due();
        due.promise(0, "examples");
        pulled(due);
        free(due);
        marked(due);
        due.end();
    }

    private static void pulled(Due due) {
        PulseMeadow x = new PulseMeadow();
        due.is(false, x.beater(0, 5, 0, 0));
        due.is(false, x.beater(1, 5, 2, 0));
        due.is(0, x.link(0, 1, 1, 1));
        due.is(2, x.run(5));
        due.is(2, x.phase(1));
        due.is(1, x.waiting(1));
        due.is(0, x.run(1));
        due.is(4, x.phase(1));
    }

    private static void free(Due due) {
        PulseMeadow x = new PulseMeadow();
        due.is(false, x.beater(0, 5, 0, 0));
        due.is(false, x.beater(1, 5, 2, 0));
        due.is(5, x.cycle());
        due.is(0, x.lead());
        due.is(false, x.inStep(0, 1));
        due.is(2, x.groups());
        due.is(2, x.leastPush());
    }

    private static void marked(Due due) {
        PulseMeadow x = new PulseMeadow();
        due.is(1, x.mark(3));
        due.is(2, x.mark(13));
        due.is(3, x.fits());
        due.is(10, x.guess(0));
        due.is(2, x.guess(2));
    }
}
