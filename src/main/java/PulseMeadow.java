import java.util.NoSuchElementException;

/** A meadow of beaters that pull one another, and of swings on a beam. */
public final class PulseMeadow {
    private static final int BEATER_PLACES = 16;
    private static final int SWING_PLACES = 4;
    private static final int ALL_PLACES = BEATER_PLACES + SWING_PLACES;
    private static final int QUARTERS = 4;
    private static final int MOST_LINKS = 60;
    private static final int MOST_DELAY = 30;
    private static final int MOST_STRENGTH = 9;
    private static final int MOST_ANSWER = 9;
    private static final int LEAST_PERIOD = 2;
    private static final int MOST_PERIOD = 99;
    private static final int MOST_AT_ONCE = 500;
    private static final int MOST_MARKS = 20;
    private static final int MOST_MARK = 9999;
    private static final int LONGEST_WAY = 1000;
    private static final int LONGEST_MAP = 999;
    private static final int STRIP_TICKS = 30;
    private static final int MOST_TO_PUSH = 8;
    private static final int LOT_FACTOR = 48271;
    private static final int LOT_MODULUS = 2147483647;

    private final Setting setting = new Setting();
    private final State now = new State();
    private final int[] flashCounts = new int[BEATER_PLACES];
    private final int[] lastFlashes = new int[BEATER_PLACES];
    private int ticksPassed = 0;
    private int noiseShare = 0;
    private int lot = 1;

    // The way from now is kept until something changes that it goes by.
    private final Way ahead = new Way();
    private boolean aheadKnown = false;
    private boolean aheadEnds = false;

    // Rooms for what is only tried out: the state of now must stay as it is.
    private final Setting pair = new Setting();
    private final State trialStart = new State();
    private final Way trial = new Way();

    private final Marks marks = new Marks();
    private final Swings swings = new Swings();

    public PulseMeadow() {
    }

    public boolean beater(int place, int period, int phase, int quiet) throws IndexOutOfBoundsException, IllegalArgumentException, UnsupportedOperationException {
        checkPlace(place);
        checkRange(period, LEAST_PERIOD, MOST_PERIOD);
        checkRange(phase, 0, period - 1);
        checkRange(quiet, 0, period - 1);
        if (place >= BEATER_PLACES) {
            throw new UnsupportedOperationException("the place is for swings");
        }
        boolean before = setting.has(place);
        setting.put(place, period, quiet);
        now.phases[place] = phase;
        flashCounts[place] = 0;
        lastFlashes[place] = 0;
        aheadKnown = false;
        return before;
    }

    public boolean swing(int place, int angle) throws IndexOutOfBoundsException, IllegalArgumentException, UnsupportedOperationException {
        checkPlace(place);
        checkRange(angle, -1000, 1000);
        if (place < BEATER_PLACES) {
            throw new UnsupportedOperationException("the place is for beaters");
        }
        return swings.put(place - BEATER_PLACES, (float) angle / 1000.0f);
    }

    public int phase(int place) throws IndexOutOfBoundsException, NoSuchElementException {
        checkBeater(place);
        return now.phases[place];
    }

    public int period(int place, int period) throws IndexOutOfBoundsException, IllegalArgumentException, NoSuchElementException {
        checkPlace(place);
        checkRange(period, LEAST_PERIOD, MOST_PERIOD);
        checkBeater(place);
        int before = setting.periods[place];
        setting.periods[place] = period;
        setting.quiets[place] = Math.min(setting.quiets[place], period - 1);
        now.phases[place] = Math.min(now.phases[place], period - 1);
        aheadKnown = false;
        return before;
    }

    public int answer(int place, int quarter, int by) throws IndexOutOfBoundsException, IllegalArgumentException, NoSuchElementException {
        checkPlace(place);
        checkRange(quarter, 0, QUARTERS - 1);
        checkRange(by, -MOST_ANSWER, MOST_ANSWER);
        checkBeater(place);
        int before = setting.answers[place * QUARTERS + quarter];
        setting.answers[place * QUARTERS + quarter] = by;
        aheadKnown = false;
        return before;
    }

    public int link(int from, int to, int delay, int strength) throws IndexOutOfBoundsException, IllegalArgumentException, IllegalStateException {
        if (from < 0 || from >= BEATER_PLACES || to < 0 || to >= BEATER_PLACES) {
            throw new IndexOutOfBoundsException("no such place for beaters");
        }
        checkOther(from, to);
        checkRange(delay, 1, MOST_DELAY);
        checkRange(strength, 1, MOST_STRENGTH);
        if (setting.links >= MOST_LINKS) {
            throw new IllegalStateException("no more links");
        }
        setting.addLink(from, to, delay, strength);
        aheadKnown = false;
        return setting.links - 1;
    }

    public int cut(int link) throws IndexOutOfBoundsException {
        if (link < 0 || link >= setting.links) {
            throw new IndexOutOfBoundsException("no such link");
        }
        setting.removeLink(link);
        aheadKnown = false;
        return setting.links;
    }

    public int net(char kind, int delay, int strength) throws IllegalArgumentException, UnsupportedOperationException {
        if (kind != 'r' && kind != 'l' && kind != 'h' && kind != 'a') {
            throw new IllegalArgumentException("no such kind of net");
        }
        checkRange(delay, 1, MOST_DELAY);
        checkRange(strength, 1, MOST_STRENGTH);
        if (setting.beaters < 2 || netSize(kind, setting.beaters) > MOST_LINKS) {
            throw new UnsupportedOperationException("no such net of so many beaters");
        }
        setting.links = 0;
        if (kind == 'h') {
            setting.linkHub(delay, strength);
        } else if (kind == 'a') {
            setting.linkAll(delay, strength);
        } else {
            setting.linkNext(delay, strength, kind == 'r');
        }
        aheadKnown = false;
        return setting.links;
    }

    public int run(int ticks) throws IllegalArgumentException {
        checkRange(ticks, 1, MOST_AT_ONCE);
        int flashed = 0;
        for (int i = 0; i < ticks; i++) {
            ticksPassed++;
            flashed += noteFlashes(now.advance(setting, drawLots()));
        }
        aheadKnown = false;
        return flashed;
    }

    public int tick() {
        return ticksPassed;
    }

    public int flashes(int place) throws IndexOutOfBoundsException, NoSuchElementException {
        checkBeater(place);
        return flashCounts[place];
    }

    public int last(int place) throws IndexOutOfBoundsException, NoSuchElementException {
        checkBeater(place);
        return lastFlashes[place];
    }

    public int waiting(int place) throws IndexOutOfBoundsException, NoSuchElementException {
        checkBeater(place);
        return now.underWayTo(place);
    }

    public int strip(int place) throws IndexOutOfBoundsException, NoSuchElementException, UnsupportedOperationException {
        checkBeater(place);
        checkNoNoise();
        trialStart.copy(now);
        int bits = 0;
        for (int i = 0; i < STRIP_TICKS; i++) {
            int flashed = trialStart.advance(setting, 0);
            bits |= (flashed >> place & 1) << i;
        }
        return bits;
    }

    public int cycle() throws UnsupportedOperationException, ArithmeticException {
        return wayAhead().cycleTicks;
    }

    public int lead() throws UnsupportedOperationException, ArithmeticException {
        return wayAhead().leadTicks;
    }

    public int beats(int place) throws IndexOutOfBoundsException, NoSuchElementException, UnsupportedOperationException, ArithmeticException {
        checkBeater(place);
        return wayAhead().countFlashes(place);
    }

    public boolean inStep(int place, int other) throws IndexOutOfBoundsException, NoSuchElementException, UnsupportedOperationException, ArithmeticException {
        checkPlace(place);
        checkPlace(other);
        checkBeater(place);
        checkBeater(other);
        return wayAhead().keepsStep(place, other);
    }

    public int groups() throws UnsupportedOperationException, ArithmeticException {
        return wayAhead().gather(setting);
    }

    public int groupOf(int place) throws IndexOutOfBoundsException, NoSuchElementException, UnsupportedOperationException, ArithmeticException {
        checkBeater(place);
        Way way = wayAhead();
        way.gather(setting);
        return way.groupNumbers[place];
    }

    public int islands() throws UnsupportedOperationException, ArithmeticException {
        int breaks = wayAhead().countBreaks(setting);
        return breaks == 0 && setting.beaters > 0 ? 1 : breaks;
    }

    public int order(int index) throws UnsupportedOperationException, ArithmeticException, NoSuchElementException {
        int place = wayAhead().flasherAt(setting, index);
        if (place < 0) {
            throw new NoSuchElementException("no such flash in the cycle");
        }
        return place;
    }

    public int map(int place, int other, int phase) throws IndexOutOfBoundsException, IllegalArgumentException, NoSuchElementException, ArithmeticException {
        checkPair(place, other);
        if (phase < 0 || phase >= setting.periods[other]) {
            throw new ArithmeticException("not a phase of the second one");
        }
        setPair(place, other);
        trialStart.phases[place] = 0;
        trialStart.phases[other] = phase;
        for (int i = 0; i < LONGEST_MAP; i++) {
            int flashed = trialStart.advance(pair, 0);
            if ((flashed >> place & 1) != 0) {
                return trialStart.phases[other];
            }
        }
        throw new ArithmeticException("the first one does not flash");
    }

    public boolean locks(int place, int other, int period) throws IndexOutOfBoundsException, IllegalArgumentException, NoSuchElementException, ArithmeticException {
        checkPlace(place);
        checkPlace(other);
        checkOther(place, other);
        checkRange(period, LEAST_PERIOD, MOST_PERIOD);
        checkPair(place, other);
        setPair(place, other);
        if (!followPair(place, other, period)) {
            throw new ArithmeticException("the way is too long");
        }
        return flashEquallyOften(place, other);
    }

    public int tongue(int place, int other) throws IndexOutOfBoundsException, IllegalArgumentException, NoSuchElementException {
        checkPair(place, other);
        setPair(place, other);
        int locking = 0;
        for (int period = LEAST_PERIOD; period <= MOST_PERIOD; period++) {
            if (followPair(place, other, period) && flashEquallyOften(place, other)) {
                locking++;
            }
        }
        return locking;
    }

    public int push(int place, int by) throws IndexOutOfBoundsException, IllegalArgumentException, NoSuchElementException {
        checkPlace(place);
        checkRange(by, -99, 99);
        checkBeater(place);
        int most = setting.periods[place] - 1;
        now.phases[place] = Math.max(0, Math.min(most, now.phases[place] + by));
        aheadKnown = false;
        return now.phases[place];
    }

    public int leastPush() throws UnsupportedOperationException, NoSuchElementException {
        checkNoNoise();
        if (setting.beaters < 1 || setting.beaters > MOST_TO_PUSH) {
            throw new UnsupportedOperationException("too few or too many beaters");
        }
        int movable = movableByPush();
        for (int size = 0; size <= Integer.bitCount(movable); size++) {
            int set = firstInStepSet(movable, size);
            if (set >= 0) {
                return set;
            }
        }
        throw new NoSuchElementException("no set brings all in step");
    }

    public int noise(int hundredths) throws IllegalArgumentException {
        checkRange(hundredths, 0, 99);
        int before = noiseShare;
        noiseShare = hundredths;
        return before;
    }

    public int seed(int z) throws IllegalArgumentException {
        checkRange(z, 1, LOT_MODULUS - 1);
        int before = lot;
        lot = z;
        return before;
    }

    public int mark(int tick) throws IllegalArgumentException, IllegalStateException {
        checkRange(tick, 0, MOST_MARK);
        if (marks.count >= MOST_MARKS) {
            throw new IllegalStateException("no more marks");
        }
        return marks.add(tick);
    }

    public int wipe() {
        int before = marks.count;
        marks.count = 0;
        return before;
    }

    public int fits() {
        return marks.countPeriods();
    }

    public int guess(int index) throws NoSuchElementException {
        int period = marks.count < 2 ? 0 : marks.periodAt(index);
        if (period == 0) {
            throw new NoSuchElementException("no such period");
        }
        return period;
    }

    public int beam(int stiffness, int pull) throws IllegalArgumentException {
        checkRange(stiffness, 1, 99);
        checkRange(pull, 0, 99);
        int before = swings.stiffness;
        swings.stiffness = stiffness;
        swings.pull = pull;
        return before;
    }

    public int sway(int steps) throws IllegalArgumentException {
        checkRange(steps, 1, MOST_AT_ONCE);
        for (int i = 0; i < steps; i++) {
            swings.step();
        }
        return swings.count();
    }

    public int angleBits(int place) throws IndexOutOfBoundsException, NoSuchElementException {
        checkPlace(place);
        if (!swings.has(place - BEATER_PLACES)) {
            throw new NoSuchElementException("no swing is there");
        }
        return swings.bitsOfAngle(place - BEATER_PLACES);
    }

    public long energyBits() {
        return swings.bitsOfEnergy();
    }

    public float stepShare() throws UnsupportedOperationException, ArithmeticException {
        checkNoNoise();
        int all = setting.beaters;
        if (all < 1) {
            throw new ArithmeticException("there are no beaters");
        }
        return (float) wayAhead().countWithFirst(setting) / (float) all;
    }

    public double meanPhase() throws ArithmeticException {
        int all = setting.beaters;
        if (all < 1) {
            throw new ArithmeticException("there are no beaters");
        }
        int sum = 0;
        for (int i = 0; i < all; i++) {
            sum += now.phases[setting.places[i]];
        }
        return (double) sum / (double) all;
    }

    public long checksum() {
        long sum = 7;
        for (int i = 0; i < setting.beaters; i++) {
            int place = setting.places[i];
            sum = 31 * sum + now.phases[place];
            sum = 31 * sum + flashCounts[place];
            sum = 31 * sum + now.underWayTo(place);
        }
        for (int i = 0; i < SWING_PLACES; i++) {
            if (swings.has(i)) {
                sum = 31 * sum + swings.bitsOfAngle(i);
            }
        }
        return 31 * sum + ticksPassed;
    }

    public boolean isTrue() {
        for (int i = 0; i < setting.beaters; i++) {
            int place = setting.places[i];
            if (now.phases[place] >= setting.periods[place]) {
                return false;
            }
        }
        if (noiseShare > 0 || !trial.follow(setting, now)) {
            return true;
        }
        return trial.returnsAnew(setting, now) && trial.groupsHaveAll(setting);
    }

    private static void checkPlace(int place) {
        if (place < 0 || place >= ALL_PLACES) {
            throw new IndexOutOfBoundsException("no such place");
        }
    }

    private static void checkRange(int number, int least, int most) {
        if (number < least || number > most) {
            throw new IllegalArgumentException("a number is out of range");
        }
    }

    private static void checkOther(int place, int other) {
        if (place == other) {
            throw new IllegalArgumentException("both places are the same");
        }
    }

    private void checkBeater(int place) {
        checkPlace(place);
        if (!setting.has(place)) {
            throw new NoSuchElementException("no beater is there");
        }
    }

    private void checkPair(int place, int other) {
        checkPlace(place);
        checkPlace(other);
        checkOther(place, other);
        checkBeater(place);
        checkBeater(other);
    }

    private void checkNoNoise() {
        if (noiseShare > 0) {
            throw new UnsupportedOperationException("there is noise");
        }
    }

    private static int netSize(char kind, int beaters) {
        if (kind == 'r') {
            return beaters;
        }
        if (kind == 'l') {
            return beaters - 1;
        }
        return kind == 'h' ? 2 * (beaters - 1) : beaters * (beaters - 1);
    }

    /** The places, as bits, whose beaters noise brings 1 further in this tick. */
    private int drawLots() {
        if (noiseShare == 0) {
            return 0;
        }
        int hit = 0;
        for (int i = 0; i < setting.beaters; i++) {
            lot = (int) ((long) lot * LOT_FACTOR % LOT_MODULUS);
            if (lot % 100 < noiseShare) {
                hit |= 1 << setting.places[i];
            }
        }
        return hit;
    }

    private int noteFlashes(int flashed) {
        if (flashed != 0) {
            for (int place = 0; place < BEATER_PLACES; place++) {
                if ((flashed >> place & 1) != 0) {
                    flashCounts[place]++;
                    lastFlashes[place] = ticksPassed;
                }
            }
        }
        return Integer.bitCount(flashed);
    }

    private Way wayAhead() {
        checkNoNoise();
        if (!aheadKnown) {
            aheadEnds = ahead.follow(setting, now);
            aheadKnown = true;
        }
        if (!aheadEnds) {
            throw new ArithmeticException("the way is too long");
        }
        return ahead;
    }

    private void setPair(int place, int other) {
        pair.takeTwo(setting, place, other);
        trialStart.clear();
    }

    /** Tells whether the way of the two alone, the second one having that period, is not too long. */
    private boolean followPair(int place, int other, int period) {
        pair.periods[other] = period;
        pair.quiets[other] = Math.min(setting.quiets[other], period - 1);
        trialStart.phases[place] = now.phases[place];
        trialStart.phases[other] = Math.min(now.phases[other], period - 1);
        return trial.follow(pair, trialStart);
    }

    private boolean flashEquallyOften(int place, int other) {
        int often = trial.countFlashes(place);
        return often >= 1 && often == trial.countFlashes(other);
    }

    /** The phase that a push towards the first beater of all gives. */
    private int pushedPhase(int place) {
        return Math.min(now.phases[setting.places[0]], setting.periods[place] - 1);
    }

    /** A beater whose phase a push leaves as it is belongs to no least set. */
    private int movableByPush() {
        int movable = 0;
        for (int i = 0; i < setting.beaters; i++) {
            int place = setting.places[i];
            if (pushedPhase(place) != now.phases[place]) {
                movable |= 1 << place;
            }
        }
        return movable;
    }

    /** The least set of that many of the movable beaters that brings all in step, or -1. */
    private int firstInStepSet(int movable, int size) {
        int set = 0;
        for (int i = 0; i < 1 << Integer.bitCount(movable); i++) {
            if (Integer.bitCount(set) == size && bringsInStep(set)) {
                return set;
            }
            // The borrow runs through the places that are not movable: the next greater set of movable ones.
            set = set - movable & movable;
        }
        return -1;
    }

    private boolean bringsInStep(int set) {
        trialStart.copy(now);
        for (int place = 0; place < BEATER_PLACES; place++) {
            if ((set >> place & 1) != 0) {
                trialStart.phases[place] = pushedPhase(place);
            }
        }
        return trial.follow(setting, trialStart) && trial.allInStep(setting);
    }

    /** What is told of beaters and links: all that a tick goes by, the state aside. */
    private static final class Setting {
        private int beaters = 0;
        private int mask = 0;
        private final int[] places = new int[BEATER_PLACES];
        private final int[] periods = new int[BEATER_PLACES];
        private final int[] quiets = new int[BEATER_PLACES];
        private final int[] answers = new int[BEATER_PLACES * QUARTERS];
        private int links = 0;
        private final int[] froms = new int[MOST_LINKS];
        private final int[] tos = new int[MOST_LINKS];
        private final int[] delays = new int[MOST_LINKS];
        private final int[] strengths = new int[MOST_LINKS];

        private boolean has(int place) {
            return place >= 0 && place < BEATER_PLACES && (mask >> place & 1) != 0;
        }

        private void put(int place, int period, int quiet) {
            periods[place] = period;
            quiets[place] = quiet;
            for (int i = 0; i < QUARTERS; i++) {
                answers[place * QUARTERS + i] = 1;
            }
            setPlaces(mask | 1 << place);
        }

        private void setPlaces(int bits) {
            mask = bits;
            beaters = 0;
            for (int place = 0; place < BEATER_PLACES; place++) {
                if ((bits >> place & 1) != 0) {
                    places[beaters] = place;
                    beaters++;
                }
            }
        }

        private void addLink(int from, int to, int delay, int strength) {
            if (links < MOST_LINKS) {
                froms[links] = from;
                tos[links] = to;
                delays[links] = delay;
                strengths[links] = strength;
                links++;
            }
        }

        private void removeLink(int link) {
            for (int i = link; i < links - 1; i++) {
                froms[i] = froms[i + 1];
                tos[i] = tos[i + 1];
                delays[i] = delays[i + 1];
                strengths[i] = strengths[i + 1];
            }
            links--;
        }

        private void linkNext(int delay, int strength, boolean round) {
            for (int i = 0; i < beaters - 1; i++) {
                addLink(places[i], places[i + 1], delay, strength);
            }
            if (round && beaters > 0) {
                addLink(places[beaters - 1], places[0], delay, strength);
            }
        }

        private void linkHub(int delay, int strength) {
            for (int i = 1; i < beaters; i++) {
                addLink(places[0], places[i], delay, strength);
                addLink(places[i], places[0], delay, strength);
            }
        }

        private void linkAll(int delay, int strength) {
            for (int i = 0; i < beaters; i++) {
                for (int j = 0; j < beaters; j++) {
                    if (i != j) {
                        addLink(places[i], places[j], delay, strength);
                    }
                }
            }
        }

        private void takeTwo(Setting whole, int place, int other) {
            setPlaces(1 << place | 1 << other);
            System.arraycopy(whole.periods, 0, periods, 0, BEATER_PLACES);
            System.arraycopy(whole.quiets, 0, quiets, 0, BEATER_PLACES);
            System.arraycopy(whole.answers, 0, answers, 0, BEATER_PLACES * QUARTERS);
            links = 0;
            for (int i = 0; i < whole.links; i++) {
                if (has(whole.froms[i]) && has(whole.tos[i])) {
                    addLink(whole.froms[i], whole.tos[i], whole.delays[i], whole.strengths[i]);
                }
            }
        }

        private int pulled(int place, int phase, int strength) {
            int period = periods[place];
            if (strength == 0 || phase < quiets[place] || phase < 0 || phase >= period) {
                return phase;
            }
            int quarter = QUARTERS * phase / period;
            return Math.max(0, phase + answers[place * QUARTERS + quarter] * strength);
        }
    }

    /** All phases, and the strengths that are under way, by places and by how soon they come. */
    private static final class State {
        // One row of places for each tick to come, in a ring; a power of 2 above the longest delay.
        private static final int ROWS = 32;

        private final int[] phases = new int[BEATER_PLACES];
        private final int[] coming = new int[ROWS * BEATER_PLACES];
        private int row = 0;

        private void clear() {
            for (int i = 0; i < BEATER_PLACES; i++) {
                phases[i] = 0;
            }
            for (int i = 0; i < ROWS * BEATER_PLACES; i++) {
                coming[i] = 0;
            }
        }

        private void copy(State other) {
            System.arraycopy(other.phases, 0, phases, 0, BEATER_PLACES);
            System.arraycopy(other.coming, 0, coming, 0, ROWS * BEATER_PLACES);
            row = other.row;
        }

        private int startOfRow(int delay) {
            return (row + delay & ROWS - 1) * BEATER_PLACES;
        }

        private int underWayTo(int place) {
            int sum = 0;
            for (int delay = 1; delay <= MOST_DELAY; delay++) {
                sum += coming[startOfRow(delay) + place];
            }
            return sum;
        }

        /** Lets a tick pass, and answers which places flashed, as bits. */
        private int advance(Setting setting, int further) {
            row = row + 1 & ROWS - 1;
            int start = startOfRow(0);
            int flashed = 0;
            for (int i = 0; i < setting.beaters; i++) {
                int place = setting.places[i];
                int phase = setting.pulled(place, phases[place], coming[start + place]) + 1 + (further >> place & 1);
                if (phase >= setting.periods[place]) {
                    phase = 0;
                    flashed |= 1 << place;
                }
                phases[place] = phase;
            }
            for (int place = 0; place < BEATER_PLACES; place++) {
                coming[start + place] = 0;
            }
            if (flashed != 0) {
                sendSignals(setting, flashed);
            }
            return flashed;
        }

        private void sendSignals(Setting setting, int flashed) {
            for (int i = 0; i < setting.links; i++) {
                if ((flashed >> setting.froms[i] & 1) != 0) {
                    coming[startOfRow(setting.delays[i]) + setting.tos[i]] += setting.strengths[i];
                }
            }
        }

        /** Signals to places without a beater do not count: nothing will heed them on a way. */
        private boolean isLike(State other, Setting setting) {
            for (int i = 0; i < setting.beaters; i++) {
                int place = setting.places[i];
                if (phases[place] != other.phases[place]) {
                    return false;
                }
            }
            for (int delay = 1; delay <= MOST_DELAY; delay++) {
                int mine = startOfRow(delay);
                int others = other.startOfRow(delay);
                for (int i = 0; i < setting.beaters; i++) {
                    int place = setting.places[i];
                    if (coming[mine + place] != other.coming[others + place]) {
                        return false;
                    }
                }
            }
            return true;
        }
    }

    /** What comes from a state on, without noise. */
    private static final class Way {
        private int leadTicks = 0;
        private int cycleTicks = 1;
        private final int[] flashed = new int[2 * LONGEST_WAY + 1];
        private final int[] groupNumbers = new int[BEATER_PLACES];
        private final State behind = new State();
        private final State front = new State();

        /**
         * Tells whether the way is not too long. Brent's search: the state behind stays where it is
         * while the one in front looks for it, and is set to it after ever more ticks. A way that
         * is not too long is in its cycle at the longest lead, so that a search from there ends.
         */
        private boolean follow(Setting setting, State start) {
            behind.copy(start);
            front.copy(start);
            int apart = 0;
            int stride = 1;
            for (int tick = 1; tick <= 2 * LONGEST_WAY; tick++) {
                flashed[tick] = front.advance(setting, 0);
                apart++;
                if (front.isLike(behind, setting)) {
                    cycleTicks = apart;
                    return findLead(setting, start);
                }
                if (tick == LONGEST_WAY || apart == stride && tick < LONGEST_WAY) {
                    behind.copy(front);
                    stride *= 2;
                    apart = 0;
                }
            }
            return false;
        }

        private boolean findLead(Setting setting, State start) {
            behind.copy(start);
            front.copy(start);
            for (int i = 0; i < cycleTicks; i++) {
                front.advance(setting, 0);
            }
            for (leadTicks = 0; leadTicks + cycleTicks <= LONGEST_WAY; leadTicks++) {
                if (front.isLike(behind, setting)) {
                    return true;
                }
                front.advance(setting, 0);
                behind.advance(setting, 0);
            }
            return false;
        }

        /** Asks the ticks anew, not the search, for isTrue. */
        private boolean returnsAnew(Setting setting, State start) {
            front.copy(start);
            for (int i = 0; i < leadTicks; i++) {
                front.advance(setting, 0);
            }
            behind.copy(front);
            for (int i = 0; i < cycleTicks; i++) {
                front.advance(setting, 0);
            }
            return front.isLike(behind, setting);
        }

        private int flashedInCycle(int tick) {
            int index = leadTicks + 1 + tick;
            return index < 1 || index > 2 * LONGEST_WAY ? 0 : flashed[index];
        }

        private int countFlashes(int place) {
            int often = 0;
            for (int tick = 0; tick < cycleTicks; tick++) {
                often += flashedInCycle(tick) >> place & 1;
            }
            return often;
        }

        private boolean keepsStep(int place, int other) {
            for (int tick = 0; tick < cycleTicks; tick++) {
                int bits = flashedInCycle(tick);
                if ((bits >> place & 1) != (bits >> other & 1)) {
                    return false;
                }
            }
            return true;
        }

        private boolean allInStep(Setting setting) {
            for (int tick = 0; tick < cycleTicks; tick++) {
                int bits = flashedInCycle(tick);
                if (bits != 0 && bits != setting.mask) {
                    return false;
                }
            }
            return true;
        }

        private int countWithFirst(Setting setting) {
            int with = 0;
            for (int i = 0; i < setting.beaters; i++) {
                if (keepsStep(setting.places[0], setting.places[i])) {
                    with++;
                }
            }
            return with;
        }

        /** Numbers the groups, and answers how many there are. */
        private int gather(Setting setting) {
            int groups = 0;
            for (int i = 0; i < setting.beaters; i++) {
                int place = setting.places[i];
                int mate = firstInStep(setting, place);
                if (mate == place) {
                    groupNumbers[place] = groups;
                    groups++;
                } else {
                    groupNumbers[place] = groupNumbers[mate];
                }
            }
            return groups;
        }

        private int firstInStep(Setting setting, int place) {
            for (int i = 0; i < setting.beaters; i++) {
                if (keepsStep(setting.places[i], place)) {
                    return setting.places[i];
                }
            }
            return place;
        }

        private boolean groupsHaveAll(Setting setting) {
            int groups = gather(setting);
            int had = 0;
            for (int group = 0; group < groups; group++) {
                for (int i = 0; i < setting.beaters; i++) {
                    if (groupNumbers[setting.places[i]] == group) {
                        had++;
                    }
                }
            }
            return had == setting.beaters;
        }

        private int countBreaks(Setting setting) {
            int breaks = 0;
            for (int i = 0; i < setting.beaters; i++) {
                int next = i + 1 < setting.beaters ? i + 1 : 0;
                if (!keepsStep(setting.places[i], setting.places[next])) {
                    breaks++;
                }
            }
            return breaks;
        }

        /** The place of that flash of the cycle, or -1. */
        private int flasherAt(Setting setting, int index) {
            int left = index;
            for (int tick = 0; tick < cycleTicks && left >= 0; tick++) {
                int bits = flashedInCycle(tick);
                for (int i = 0; i < setting.beaters; i++) {
                    if ((bits >> setting.places[i] & 1) != 0) {
                        if (left == 0) {
                            return setting.places[i];
                        }
                        left--;
                    }
                }
            }
            return -1;
        }
    }

    /** The marks of a hidden beater. */
    private static final class Marks {
        private int count = 0;
        private final int[] ticks = new int[MOST_MARKS];

        private int add(int tick) {
            if (count < MOST_MARKS) {
                ticks[count] = tick;
                count++;
            }
            return count;
        }

        private boolean agreeOn(int period) {
            for (int i = 1; i < count; i++) {
                if (period < 1 || ticks[i] % period != ticks[0] % period) {
                    return false;
                }
            }
            return true;
        }

        private int countPeriods() {
            int fitting = 0;
            for (int period = LEAST_PERIOD; period <= MOST_PERIOD; period++) {
                if (agreeOn(period)) {
                    fitting++;
                }
            }
            return fitting;
        }

        /** The period of that index among those that fit, the greatest one first, or 0. */
        private int periodAt(int index) {
            int left = index;
            for (int period = MOST_PERIOD; period >= LEAST_PERIOD; period--) {
                if (agreeOn(period)) {
                    if (left == 0) {
                        return period;
                    }
                    left--;
                }
            }
            return 0;
        }
    }

    /**
     * The swings on their beam. A beam that is told anew again and again can drive them beyond what
     * a float holds, and no operation may answer NaN; so all floats are carried in doubles, which
     * hold them as they are, and a double that is no float stands for NaN.
     */
    private static final class Swings {
        private final boolean[] there = new boolean[SWING_PLACES];
        private final double[] angles = new double[SWING_PLACES];
        private final double[] speeds = new double[SWING_PLACES];
        private int stiffness = 10;
        private int pull = 0;

        private boolean has(int index) {
            return index >= 0 && index < SWING_PLACES && there[index];
        }

        private boolean put(int index, float angle) {
            if (index < 0 || index >= SWING_PLACES) {
                return false;
            }
            boolean before = there[index];
            there[index] = true;
            angles[index] = angle;
            speeds[index] = 0.0;
            return before;
        }

        private int count() {
            int all = 0;
            for (int i = 0; i < SWING_PLACES; i++) {
                if (there[i]) {
                    all++;
                }
            }
            return all;
        }

        private void step() {
            double mean = meanAngle();
            for (int i = 0; i < SWING_PLACES; i++) {
                if (there[i]) {
                    double pulled = times(pull, minus(mean, angles[i]));
                    double held = times(stiffness, angles[i]);
                    speeds[i] = plus(speeds[i], times(0.01f, minus(pulled, held)));
                }
            }
            for (int i = 0; i < SWING_PLACES; i++) {
                if (there[i]) {
                    angles[i] = plus(angles[i], times(0.01f, speeds[i]));
                }
            }
        }

        private double meanAngle() {
            double sum = 0.0;
            for (int i = 0; i < SWING_PLACES; i++) {
                if (there[i]) {
                    sum = plus(sum, angles[i]);
                }
            }
            int all = count();
            return all == 0 || isLost(sum) ? sum : (float) sum / (float) all;
        }

        private static double lost() {
            return 1e300;
        }

        private static boolean isLost(double a) {
            return a == lost();
        }

        private static boolean isEndless(double a) {
            return a > 1e308 || a < -1e308;
        }

        private static double plus(double a, double b) {
            if (isLost(a) || isLost(b) || isEndless(a) && isEndless(b) && a > 0 != b > 0) {
                return lost();
            }
            return (float) a + (float) b;
        }

        private static double minus(double a, double b) {
            return isLost(b) ? lost() : plus(a, -b);
        }

        private static double times(double a, double b) {
            if (isLost(a) || isLost(b) || isEndless(a) && b == 0 || a == 0 && isEndless(b)) {
                return lost();
            }
            return (float) a * (float) b;
        }

        private int bitsOfAngle(int index) {
            return has(index) ? (int) bitsOf(angles[index], 23, 127) : 0;
        }

        private long bitsOfEnergy() {
            double energy = 0.0;
            for (int i = 0; i < SWING_PLACES; i++) {
                if (there[i]) {
                    if (isLost(angles[i]) || isLost(speeds[i])) {
                        return bitsOf(lost(), 52, 1023);
                    }
                    energy += 0.5 * (speeds[i] * speeds[i]) + 0.5 * stiffness * (angles[i] * angles[i]);
                }
            }
            return bitsOf(energy, 52, 1023);
        }

        /** The bits of a floating number with so many bits of fraction, and that bias. */
        private static long bitsOf(double value, int fraction, int bias) {
            long beyond = (2L * bias + 1) << fraction;
            if (isLost(value)) {
                return beyond | 1L << fraction - 1;
            }
            long sign = value < 0 ? (bias + 1L) * 2 << fraction : 0;
            double rest = value < 0 ? -value : value;
            if (isEndless(rest)) {
                return sign | beyond;
            }
            int exponent = 0;
            for (int i = 0; i < 1100 && rest >= 2; i++) {
                rest /= 2;
                exponent++;
            }
            for (int i = 0; i < 1100 && rest < 1 && exponent > 1 - bias; i++) {
                rest *= 2;
                exponent--;
            }
            // A rest below 1 is too small for the hidden bit: the exponent's bits are 0 then.
            long head = rest < 1 ? 0 : (long) (exponent + bias) << fraction;
            double tail = rest < 1 ? rest : rest - 1;
            return sign | head | (long) (tail * (1L << fraction));
        }
    }
}
