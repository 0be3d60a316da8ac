/**
 * Ground that creeps: marks and their readings, rates, jumps, velocities, blocks that turn,
 * slips on cuts and loops of levels. What each call promises stands in the document.
 */
public final class CreepBoard {
    private static final int MOST_MARKS = 10;
    private static final int EPOCHS = 40;
    private static final int SIDES = 2;
    private static final int EAST = 0;
    private static final int NORTH = 1;
    private static final int MOST_STEPS = 10;
    private static final int CUTS = 3;
    private static final int MOST_SLIP = 15;
    private static final int PARTS = 4;
    private static final int MOST_LINES = 14;
    private static final int SHELVES = 8;
    private static final int LONGEST_ROW = 60;
    private static final int SEASON = 4;

    private static final int PLAIN = 0;
    private static final int RECEIVER = 1;
    private static final int STANDING = 2;
    private static final int BUOY = 3;

    private static final int FARTHEST_PLACE = 1000;
    private static final int GREATEST_OFFSET = 99;
    private static final int GREATEST_READING = 100000;
    private static final int GREATEST_STEP = 10000;
    private static final int GREATEST_VELOCITY = 1000;
    private static final int GREATEST_TURN = 9;
    private static final int GREATEST_FRAMED = 100000;
    private static final int GREATEST_GREEN = 20;
    private static final int GREATEST_TOLERANCE = 100;
    private static final int GREATEST_RISE = 10000;

    private static final int NO_SUCH = -1;
    private static final int FULL = -2;
    private static final int EMPTY = -3;
    private static final int NONE = -4;
    private static final int NOTHING_HELD = -11;
    private static final int OTHER_KIND = -12;
    private static final int NO_PLACE = -13;
    private static final int SIZE_BELOW_NOUGHT = -14;
    private static final int NO_FAILURE = -15;
    // Calls whose good answers may be below nought put their refusals this much lower.
    private static final int LOWERED = -1000;
    private static final int NO_RECEIVER = -1003;

    private static final int HOLDS_NOTHING = 0;
    private static final int HOLDS_MARK = 1;
    private static final int HOLDS_INTS = 3;
    private static final int HOLDS_LONGS = 4;

    private final Mark[] marks = new Mark[MOST_MARKS];
    private final Series series = new Series();
    private final BlockFinder blockFinder = new BlockFinder();
    private final SlipFinder slipFinder = new SlipFinder();
    private final Levels levels = new Levels();
    private final Shelf[] shelves = new Shelf[SHELVES];
    private int markCount;
    private int tolerance;

    public CreepBoard() {
        for (int d = 0; d < SHELVES; d++) {
            shelves[d] = new Shelf();
        }
    }

    // ---- marks and readings

    public int mark(int kind, int x, int y) {
        if (kind < PLAIN || kind > BUOY || !within(x, FARTHEST_PLACE) || !within(y, FARTHEST_PLACE)) {
            return NO_SUCH;
        }
        if (markCount >= MOST_MARKS) {
            return FULL;
        }
        marks[markCount] = markOfKind(kind, markCount, x, y);
        markCount++;
        forgetMotion();
        return markCount - 1;
    }

    public int antenna(int mark, int epoch, int offset) {
        Mark m = markAt(mark);
        if (m == null || !isEpoch(epoch) || !within(offset, GREATEST_OFFSET)) {
            return LOWERED + NO_SUCH;
        }
        if (m instanceof Receiver r) {
            return r.changeAntenna(epoch, offset);
        }
        return NO_RECEIVER;
    }

    public int read(int mark, int epoch, int east, int north) {
        Mark m = markAt(mark);
        if (m == null || !isEpoch(epoch) || !within(east, GREATEST_READING) || !within(north, GREATEST_READING)) {
            return NO_SUCH;
        }
        return m.putReading(epoch, east, north) ? 1 : 0;
    }

    public int gap(int mark, int epoch) {
        Mark m = markAt(mark);
        if (m == null || !isEpoch(epoch)) {
            return NO_SUCH;
        }
        return m.dropReading(epoch) ? 1 : 0;
    }

    public int step(int mark, int epoch, int east, int north) {
        Mark m = markAt(mark);
        if (m == null || !isEpoch(epoch) || !within(east, GREATEST_STEP) || !within(north, GREATEST_STEP)) {
            return NO_SUCH;
        }
        return m.addStep(epoch, east, north) ? m.stepCount() : FULL;
    }

    public long cleared(int mark, int epoch, int side) throws IllegalArgumentException, IllegalStateException {
        Mark m = markAt(mark);
        if (m == null || !isEpoch(epoch) || !isSide(side)) {
            throw new IllegalArgumentException("no such mark, epoch or side");
        }
        if (!m.isCleared(epoch)) {
            throw new IllegalStateException("no cleared reading");
        }
        return m.clearedValue(epoch, side);
    }

    public int many(int mark) {
        Mark m = markAt(mark);
        if (m == null) {
            return NO_SUCH;
        }
        series.gather(m, EAST);
        return series.size();
    }

    public long rate(int mark, int side, boolean lower) throws IllegalArgumentException, IllegalStateException {
        Mark m = markAt(mark);
        if (m == null || !isSide(side)) {
            throw new IllegalArgumentException("no such mark or side");
        }
        series.gather(m, side);
        if (series.size() < 2) {
            throw new IllegalStateException("fewer than 2 cleared readings");
        }
        return lowestTerms(series.rateAbove(), series.rateBelow(), lower);
    }

    public int jump(int mark, int side) {
        Mark m = markAt(mark);
        if (m == null || !isSide(side)) {
            return NO_SUCH;
        }
        series.gather(m, side);
        return series.jumpEpoch();
    }

    public long common(int epoch, int side) throws IllegalArgumentException, IllegalStateException {
        if (!isEpoch(epoch) || !isSide(side)) {
            throw new IllegalArgumentException("no such epoch or side");
        }
        long sum = 0;
        int n = 0;
        for (int k = 0; k < markCount; k++) {
            Mark m = markAt(k);
            if (m != null && m.isCleared(epoch)) {
                sum += m.clearedValue(epoch, side) - m.clearedValue(m.firstCleared(epoch), side);
                n++;
            }
        }
        if (n == 0) {
            throw new IllegalStateException("no mark has a cleared reading there");
        }
        return sum / n;
    }

    // ---- velocities, strain, blocks

    public int velocity(int mark, int east, int north) {
        Mark m = markAt(mark);
        if (m == null || !within(east, GREATEST_VELOCITY) || !within(north, GREATEST_VELOCITY)) {
            return NO_SUCH;
        }
        boolean other = m.speed(EAST) != east || m.speed(NORTH) != north;
        m.setSpeed(east, north);
        forgetMotion();
        return other ? 1 : 0;
    }

    public long moves(int mark, int side) throws IllegalArgumentException {
        Mark m = markAt(mark);
        if (m == null || !isSide(side)) {
            throw new IllegalArgumentException("no such mark or side");
        }
        return m.speed(side);
    }

    public int frame(int a, int b, int w) {
        if (!within(a, GREATEST_VELOCITY) || !within(b, GREATEST_VELOCITY) || !within(w, GREATEST_TURN)) {
            return NO_SUCH;
        }
        // All are looked at before the first is changed: a refused call changes nothing.
        for (int k = 0; k < markCount; k++) {
            Mark m = markAt(k);
            if (m != null && !(within(eastInFrame(m, a, w), GREATEST_FRAMED)
                    && within(northInFrame(m, b, w), GREATEST_FRAMED))) {
                return FULL;
            }
        }
        for (int k = 0; k < markCount; k++) {
            Mark m = markAt(k);
            if (m != null) {
                m.setSpeed(eastInFrame(m, a, w), northInFrame(m, b, w));
            }
        }
        forgetMotion();
        return 1;
    }

    public long strain(int a, int b, int c, int part, boolean lower)
            throws IllegalArgumentException, IllegalStateException {
        Mark first = markAt(a);
        Mark second = markAt(b);
        Mark third = markAt(c);
        if (first == null || second == null || third == null || part < 0 || part >= PARTS) {
            throw new IllegalArgumentException("no such mark or part");
        }
        long d = areaTwice(first, second, third);
        if (d == 0) {
            throw new IllegalStateException("the marks are in a line");
        }
        return lowestTerms(strainAbove(first, second, third, part), d, lower);
    }

    public int block(int marks) {
        if (marks <= 0 || marks >= (1 << markCount)) {
            return NO_SUCH;
        }
        return BlockFinder.turnAsOne(this.marks, marks) ? 1 : 0;
    }

    public int blocks() {
        if (markCount == 0) {
            return EMPTY;
        }
        blockFinder.find(marks, markCount);
        return blockFinder.blockCount();
    }

    public int of(int mark) {
        if (markAt(mark) == null) {
            return NO_SUCH;
        }
        blockFinder.find(marks, markCount);
        return blockFinder.blockWith(mark);
    }

    // ---- cuts and levels

    public int green(int mark, int cut, int n) {
        Mark m = markAt(mark);
        if (m == null || !isCut(cut) || !within(n, GREATEST_GREEN)) {
            return LOWERED + NO_SUCH;
        }
        int before = m.greenOf(cut);
        m.setGreen(cut, n);
        slipFinder.forget();
        return before;
    }

    public int tolerance(int n) {
        if (n < 0 || n > GREATEST_TOLERANCE) {
            return NO_SUCH;
        }
        int before = tolerance;
        tolerance = n;
        slipFinder.forget();
        return before;
    }

    public int fits() {
        slipFinder.find(marks, markCount, tolerance);
        return slipFinder.fitCount();
    }

    public int slip(int cut, boolean most) {
        if (!isCut(cut)) {
            return NO_SUCH;
        }
        slipFinder.find(marks, markCount, tolerance);
        if (slipFinder.fitCount() == 0) {
            return NONE;
        }
        return most ? slipFinder.greatestOf(cut) : slipFinder.leastOf(cut);
    }

    public int locked() {
        slipFinder.find(marks, markCount, tolerance);
        if (slipFinder.fitCount() == 0) {
            return NONE;
        }
        int bits = 0;
        for (int cut = 0; cut < CUTS; cut++) {
            if (slipFinder.greatestOf(cut) == 0) {
                bits |= 1 << cut;
            }
        }
        return bits;
    }

    public int line(int from, int to, int rise) {
        if (markAt(from) == null || markAt(to) == null || from == to || !within(rise, GREATEST_RISE)) {
            return NO_SUCH;
        }
        return levels.addLine(from, to, rise) ? levels.lineCount() - 1 : FULL;
    }

    public int unline() {
        return levels.dropLine() ? levels.lineCount() : EMPTY;
    }

    public int wrong(int what) {
        if (what < 0 || what > 1) {
            return NO_SUCH;
        }
        int bits = levels.wrongLines();
        return what == 0 ? Integer.bitCount(bits) : bits;
    }

    public long height(int mark) throws IllegalArgumentException, IllegalStateException {
        if (markAt(mark) == null) {
            throw new IllegalArgumentException("no such mark");
        }
        if (!levels.leadsTo(mark)) {
            throw new IllegalStateException("no lines lead there");
        }
        return levels.heightOf(mark);
    }

    public int count(int what) {
        switch (what) {
            case 0:
                return markCount;
            case 1:
                return allReadings();
            case 2:
                return allSteps();
            case 3:
                return levels.lineCount();
            case 4:
                return tolerance;
            default:
                return NO_SUCH;
        }
    }

    public int keep(int d, int what, int k) {
        Shelf shelf = shelfAt(d);
        if (shelf == null) {
            return NO_SUCH;
        }
        if (what == HOLDS_NOTHING) {
            shelf.clear();
            return 0;
        }
        Mark m = markAt(k);
        if (m == null) {
            return NO_SUCH;
        }
        switch (what) {
            case HOLDS_MARK:
                shelf.holdMark(m);
                return 0;
            case HOLDS_INTS:
            case HOLDS_LONGS:
                series.gather(m, EAST);
                shelf.holdSeries(series, what);
                return 0;
            default:
                return NO_SUCH;
        }
    }

    public int make(int d, int what, int n) {
        Shelf shelf = shelfAt(d);
        if (shelf == null || (what != HOLDS_INTS && what != HOLDS_LONGS) || n > LONGEST_ROW) {
            return NO_SUCH;
        }
        if (n < 0) {
            return SIZE_BELOW_NOUGHT;
        }
        shelf.holdNoughts(what, n);
        return 0;
    }

    public long element(int d, int i) throws IllegalArgumentException, IllegalStateException {
        Shelf shelf = shelfAt(d);
        if (shelf == null) {
            throw new IllegalArgumentException("no such shelf");
        }
        if (!shelf.holdsRow() || i < 0 || i >= shelf.size()) {
            throw new IllegalStateException("no row, or no such place in it");
        }
        return shelf.valueAt(i);
    }

    public int copy(int d, int i, int e, int j, int n) {
        Shelf source = shelfAt(d);
        Shelf target = shelfAt(e);
        if (source == null || target == null) {
            return NO_SUCH;
        }
        if (source.holds() == HOLDS_NOTHING || target.holds() == HOLDS_NOTHING) {
            return NOTHING_HELD;
        }
        if (!source.holdsRow() || source.holds() != target.holds()) {
            return OTHER_KIND;
        }
        if (!source.hasPlaces(i, n) || !target.hasPlaces(j, n)) {
            return NO_PLACE;
        }
        source.copyPlaces(i, target, j, n);
        return n;
    }

    public int weight(int d) {
        int refusal = refusalOfMarkOn(d);
        if (refusal != 0) {
            return LOWERED + refusal;
        }
        Mark m = markOn(d);
        return m == null ? LOWERED + OTHER_KIND : m.heft();
    }

    public int toss(int d) {
        int refusal = refusalOfMarkOn(d);
        if (refusal != 0) {
            return refusal;
        }
        Mark m = markOn(d);
        if (m == null) {
            return OTHER_KIND;
        }
        try {
            m.fail();
        } catch (IllegalStateException e) {
            return m.number();
        }
        return NO_FAILURE;
    }

    // ---- what the calls share

    private static boolean within(int n, int most) {
        return n >= -most && n <= most;
    }

    private static boolean isEpoch(int epoch) {
        return epoch >= 0 && epoch < EPOCHS;
    }

    private static boolean isSide(int side) {
        return side >= 0 && side < SIDES;
    }

    private static boolean isCut(int cut) {
        return cut >= 0 && cut < CUTS;
    }

    private Mark markAt(int k) {
        return k >= 0 && k < markCount && k < MOST_MARKS ? marks[k] : null;
    }

    private Shelf shelfAt(int d) {
        return d >= 0 && d < SHELVES ? shelves[d] : null;
    }

    private static Mark markOfKind(int kind, int number, int x, int y) {
        switch (kind) {
            case RECEIVER:
                return new Receiver(number, x, y);
            case STANDING:
                return new Standing(number, x, y);
            case BUOY:
                return new Buoy(number, x, y);
            default:
                return new Mark(number, x, y);
        }
    }

    /** Blocks and slips hang on velocities: what was found of them before no longer holds. */
    private void forgetMotion() {
        blockFinder.forget();
        slipFinder.forget();
    }

    private static int eastInFrame(Mark m, int a, int w) {
        return m.speed(EAST) - (a - w * m.placeY());
    }

    private static int northInFrame(Mark m, int b, int w) {
        return m.speed(NORTH) - (b + w * m.placeX());
    }

    private static long areaTwice(Mark first, Mark second, Mark third) {
        long x1 = second.placeX() - first.placeX();
        long y1 = second.placeY() - first.placeY();
        long x2 = third.placeX() - first.placeX();
        long y2 = third.placeY() - first.placeY();
        return x1 * y2 - x2 * y1;
    }

    private static long strainAbove(Mark first, Mark second, Mark third, int part) {
        long x1 = second.placeX() - first.placeX();
        long y1 = second.placeY() - first.placeY();
        long x2 = third.placeX() - first.placeX();
        long y2 = third.placeY() - first.placeY();
        long u1 = second.speed(EAST) - first.speed(EAST);
        long v1 = second.speed(NORTH) - first.speed(NORTH);
        long u2 = third.speed(EAST) - first.speed(EAST);
        long v2 = third.speed(NORTH) - first.speed(NORTH);
        switch (part) {
            case 0:
                return u1 * y2 - u2 * y1;
            case 1:
                return x1 * v2 - x2 * v1;
            case 2:
                return (x1 * u2 - x2 * u1) + (v1 * y2 - v2 * y1);
            default:
                return (v1 * y2 - v2 * y1) - (x1 * u2 - x2 * u1);
        }
    }

    /** The upper or lower number of a fraction with no common divisor and a lower one above 0. */
    private static long lowestTerms(long above, long below, boolean lower) {
        long divisor = greatestDivisor(Math.abs(above), Math.abs(below));
        if (divisor == 0) {
            return 0;
        }
        if (below < 0) {
            divisor = -divisor;
        }
        return lower ? below / divisor : above / divisor;
    }

    private static long greatestDivisor(long a, long b) {
        long greater = a;
        long rest = b;
        // Euclid's steps on two longs are fewer than a hundred.
        for (int i = 0; i < 1000 && rest != 0; i++) {
            long next = greater % rest;
            greater = rest;
            rest = next;
        }
        return greater;
    }

    private int allReadings() {
        int n = 0;
        for (int k = 0; k < markCount; k++) {
            Mark m = markAt(k);
            if (m != null) {
                n += m.readingCount();
            }
        }
        return n;
    }

    private int allSteps() {
        int n = 0;
        for (int k = 0; k < markCount; k++) {
            Mark m = markAt(k);
            if (m != null) {
                n += m.stepCount();
            }
        }
        return n;
    }

    private Mark markOn(int d) {
        Shelf shelf = shelfAt(d);
        return shelf == null ? null : shelf.heldMark();
    }

    /** Why there is no mark to be had from a shelf, or 0 if there is one. */
    private int refusalOfMarkOn(int d) {
        Shelf shelf = shelfAt(d);
        if (shelf == null) {
            return NO_SUCH;
        }
        if (shelf.holds() == HOLDS_NOTHING) {
            return NOTHING_HELD;
        }
        return shelf.holds() == HOLDS_MARK ? 0 : OTHER_KIND;
    }

    /** A mark of the plain kind, and what all kinds have of it. Callers look at epochs, sides and cuts first. */
    private static class Mark {
        private final int number;
        private final int x;
        private final int y;
        private final boolean[] present = new boolean[EPOCHS];
        private final int[][] readings = new int[SIDES][EPOCHS];
        private final int[] stepEpochs = new int[MOST_STEPS];
        private final int[][] stepSizes = new int[SIDES][MOST_STEPS];
        private final int[] speeds = new int[SIDES];
        private final int[] greens = new int[CUTS];
        private int readingCount;
        private int stepCount;

        Mark(int number, int x, int y) {
            this.number = number;
            this.x = x;
            this.y = y;
        }

        final int number() {
            return number;
        }

        final int placeX() {
            return x;
        }

        final int placeY() {
            return y;
        }

        final int readingCount() {
            return readingCount;
        }

        final int stepCount() {
            return stepCount;
        }

        final int speed(int side) {
            return speeds[side];
        }

        final void setSpeed(int east, int north) {
            speeds[EAST] = east;
            speeds[NORTH] = north;
        }

        final int greenOf(int cut) {
            return greens[cut];
        }

        final void setGreen(int cut, int n) {
            greens[cut] = n;
        }

        final boolean hasReading(int epoch) {
            return present[epoch];
        }

        final int rawValue(int epoch, int side) {
            return readings[side][epoch];
        }

        final boolean putReading(int epoch, int east, int north) {
            boolean fresh = !present[epoch];
            if (fresh) {
                present[epoch] = true;
                readingCount++;
            }
            readings[EAST][epoch] = east;
            readings[NORTH][epoch] = north;
            return fresh;
        }

        final boolean dropReading(int epoch) {
            boolean was = present[epoch];
            if (was) {
                present[epoch] = false;
                readingCount--;
            }
            return was;
        }

        final boolean addStep(int epoch, int east, int north) {
            if (stepCount >= MOST_STEPS) {
                return false;
            }
            stepEpochs[stepCount] = epoch;
            stepSizes[EAST][stepCount] = east;
            stepSizes[NORTH][stepCount] = north;
            stepCount++;
            return true;
        }

        final boolean isCleared(int epoch) {
            return present[epoch] && epoch >= clearFrom();
        }

        /** The first epoch with a cleared reading, the given one at the latest. */
        final int firstCleared(int latest) {
            for (int e = clearFrom(); e < latest; e++) {
                if (present[e]) {
                    return e;
                }
            }
            return latest;
        }

        /** The epoch from which on readings are not left out. */
        int clearFrom() {
            return 0;
        }

        long clearedValue(int epoch, int side) {
            long value = readings[side][epoch];
            for (int i = 0; i < stepCount; i++) {
                if (stepEpochs[i] <= epoch) {
                    value -= stepSizes[side][i];
                }
            }
            return value;
        }

        int heft() {
            return 10 + readingCount;
        }

        /** Throws the failure of this kind, if the kind has one. */
        void fail() {
        }
    }

    private static class Receiver extends Mark {
        private int antennaEpoch;
        private int antennaOffset;

        Receiver(int number, int x, int y) {
            super(number, x, y);
        }

        final int changeAntenna(int epoch, int offset) {
            int before = antennaOffset;
            antennaEpoch = epoch;
            antennaOffset = offset;
            return before;
        }

        long clearedValue(int epoch, int side) {
            long value = super.clearedValue(epoch, side);
            return epoch >= antennaEpoch ? value - antennaOffset : value;
        }

        int heft() {
            return super.heft() + antennaOffset + 100;
        }

        void fail() {
            throw new IllegalStateException("the receiver fails");
        }
    }

    private static final class Standing extends Receiver {
        Standing(int number, int x, int y) {
            super(number, x, y);
        }

        int clearFrom() {
            int seen = 0;
            for (int e = 0; e < EPOCHS; e++) {
                if (hasReading(e)) {
                    seen++;
                    if (seen == 2) {
                        return e + 1;
                    }
                }
            }
            return EPOCHS;
        }

        int heft() {
            return 2 * super.heft();
        }
    }

    private static final class Buoy extends Mark {
        Buoy(int number, int x, int y) {
            super(number, x, y);
        }

        long clearedValue(int epoch, int side) {
            return super.clearedValue(epoch, side) - seasonMean(epoch, side);
        }

        private long seasonMean(int epoch, int side) {
            long sum = 0;
            int n = 0;
            for (int e = epoch % SEASON; e < EPOCHS; e += SEASON) {
                if (hasReading(e)) {
                    sum += rawValue(e, side);
                    n++;
                }
            }
            return n == 0 ? 0 : sum / n;
        }

        int heft() {
            return super.heft() + 7;
        }
    }

    /** The cleared readings of one side of a mark, by epoch; one row that every call fills again. */
    private static final class Series {
        private final int[] epochs = new int[EPOCHS];
        private final long[] values = new long[EPOCHS];
        private int size;

        void gather(Mark m, int side) {
            size = 0;
            for (int e = m.clearFrom(); e < EPOCHS; e++) {
                if (m.hasReading(e)) {
                    epochs[size] = e;
                    values[size] = m.clearedValue(e, side);
                    size++;
                }
            }
        }

        int size() {
            return size;
        }

        int epochAt(int i) {
            return epochs[i];
        }

        long valueAt(int i) {
            return values[i];
        }

        long rateAbove() {
            long sumT = 0;
            long sumZ = 0;
            long sumTZ = 0;
            for (int i = 0; i < size; i++) {
                sumT += epochs[i];
                sumZ += values[i];
                sumTZ += epochs[i] * values[i];
            }
            return size * sumTZ - sumT * sumZ;
        }

        long rateBelow() {
            long sumT = 0;
            long sumTT = 0;
            for (int i = 0; i < size; i++) {
                sumT += epochs[i];
                sumTT += (long) epochs[i] * epochs[i];
            }
            return size * sumTT - sumT * sumT;
        }

        /** The first epoch at which the means ahead and from there on are farthest apart, or NONE. */
        int jumpEpoch() {
            long after = 0;
            for (int i = 0; i < size; i++) {
                after += values[i];
            }
            int found = NONE;
            long bestApart = 0;
            long bestBelow = 1;
            long ahead = 0;
            for (int i = 0; i < size; i++) {
                int rest = size - i;
                if (i >= 2 && rest >= 2) {
                    // The means' distance as a fraction, so that no cut makes unlike ones alike.
                    long apart = Math.abs(ahead * rest - after * i);
                    long below = (long) i * rest;
                    if (found == NONE || apart * bestBelow > bestApart * below) {
                        found = epochs[i];
                        bestApart = apart;
                        bestBelow = below;
                    }
                }
                ahead += values[i];
                after -= values[i];
            }
            return found;
        }
    }

    /** Tells the fewest blocks. What was found is kept until a velocity or the marks change. */
    private static final class BlockFinder {
        private final boolean[] turns = new boolean[1 << MOST_MARKS];
        private final int[] fewest = new int[1 << MOST_MARKS];
        private final int[] leastBlock = new int[1 << MOST_MARKS];
        private final int[] blockOfMark = new int[MOST_MARKS];
        private int blockCount;
        private boolean known;

        void forget() {
            known = false;
        }

        int blockCount() {
            return blockCount;
        }

        int blockWith(int k) {
            return blockOfMark[k];
        }

        void find(Mark[] marks, int markCount) {
            if (known) {
                return;
            }
            int all = (1 << markCount) - 1;
            tellTurns(marks, all);
            // Once mark 0's block is taken off, no set that is left has mark 0: these are the even ones.
            for (int set = 2; set < all; set += 2) {
                tellFewest(set);
            }
            tellFewest(all);
            giveOut(all, markCount);
            known = true;
        }

        /** Whether one turning has the velocities of all marks of a set. */
        static boolean turnAsOne(Mark[] marks, int set) {
            Mark first = null;
            // The turning's w is p by q, and not known yet while q is 0.
            long p = 0;
            long q = 0;
            for (int k = 0; k < MOST_MARKS; k++) {
                Mark m = marks[k];
                if ((set >> k & 1) == 0 || m == null) {
                    continue;
                }
                if (first == null) {
                    first = m;
                }
                long dx = m.placeX() - first.placeX();
                long dy = m.placeY() - first.placeY();
                long du = m.speed(EAST) - first.speed(EAST);
                long dv = m.speed(NORTH) - first.speed(NORTH);
                if (q == 0) {
                    q = dx * dx + dy * dy;
                    p = dv * dx - du * dy;
                }
                if (q == 0 ? du != 0 || dv != 0 : du * q != -p * dy || dv * q != p * dx) {
                    return false;
                }
            }
            return true;
        }

        private void tellTurns(Mark[] marks, int all) {
            turns[0] = true;
            for (int set = 1; set <= all; set++) {
                // A set is no block if a part of it is none.
                turns[set] = turns[set & (set - 1)] && turnAsOne(marks, set);
            }
        }

        /** The fewest blocks of a set, and the least block of its least mark that comes with so few. */
        private void tellFewest(int set) {
            int lowest = set & -set;
            int others = set ^ lowest;
            int ways = 1 << Integer.bitCount(others);
            int part = 0;
            int best = MOST_MARKS + 1;
            for (int i = 0; i < ways; i++) {
                int block = part | lowest;
                if (turns[block] && fewest[set ^ block] + 1 < best) {
                    best = fewest[set ^ block] + 1;
                    leastBlock[set] = block;
                }
                // The next greater part of the others.
                part = (part - others) & others;
            }
            fewest[set] = best;
        }

        private void giveOut(int all, int markCount) {
            blockCount = fewest[all];
            int left = all;
            for (int k = 0; k < markCount; k++) {
                if ((left >> k & 1) != 0) {
                    int block = leastBlock[left];
                    setBlock(block);
                    left &= ~block;
                }
            }
        }

        private void setBlock(int block) {
            for (int k = 0; k < MOST_MARKS; k++) {
                if ((block >> k & 1) != 0) {
                    blockOfMark[k] = block;
                }
            }
        }
    }

    /** Tells which slips fit. What was found is kept until velocities, greens or the tolerance change. */
    private static final class SlipFinder {
        private final int[] least = new int[CUTS];
        private final int[] greatest = new int[CUTS];
        private int fitCount;
        private int low;
        private int high;
        private boolean known;

        void forget() {
            known = false;
        }

        int fitCount() {
            return fitCount;
        }

        int leastOf(int cut) {
            return least[cut];
        }

        int greatestOf(int cut) {
            return greatest[cut];
        }

        void find(Mark[] marks, int markCount, int tolerance) {
            if (known) {
                return;
            }
            fitCount = 0;
            for (int cut = 0; cut < CUTS; cut++) {
                least[cut] = MOST_SLIP;
                greatest[cut] = 0;
            }
            for (int s0 = 0; s0 <= MOST_SLIP; s0++) {
                for (int s1 = 0; s1 <= MOST_SLIP; s1++) {
                    low = 0;
                    high = MOST_SLIP;
                    for (int k = 0; k < markCount && k < MOST_MARKS && low <= high; k++) {
                        Mark m = marks[k];
                        if (m != null) {
                            narrow(m.speed(EAST) - m.greenOf(0) * s0 - m.greenOf(1) * s1, m.greenOf(2), tolerance);
                        }
                    }
                    takeIn(s0, s1);
                }
            }
            known = true;
        }

        /** Leaves of the last cut's slips those that, times green, come to what is left of a velocity. */
        private void narrow(int left, int green, int tolerance) {
            if (green == 0) {
                if (left > tolerance || left < -tolerance) {
                    high = -1;
                }
                return;
            }
            int size = Math.abs(green);
            int wanted = green < 0 ? -left : left;
            low = Math.max(low, -Math.floorDiv(tolerance - wanted, size));
            high = Math.min(high, Math.floorDiv(tolerance + wanted, size));
        }

        private void takeIn(int s0, int s1) {
            if (low > high) {
                return;
            }
            fitCount += high - low + 1;
            widen(0, s0, s0);
            widen(1, s1, s1);
            widen(2, low, high);
        }

        private void widen(int cut, int from, int to) {
            least[cut] = Math.min(least[cut], from);
            greatest[cut] = Math.max(greatest[cut], to);
        }
    }

    /** Lines of levels, which of them must be wrong, and heights by the others. */
    private static final class Levels {
        private final int[] from = new int[MOST_LINES];
        private final int[] to = new int[MOST_LINES];
        private final int[] rise = new int[MOST_LINES];
        private int lineCount;

        // Row r tells, after r joins of groups, the group of each mark and its level in that group.
        private final int[][] group = new int[MOST_MARKS][MOST_MARKS];
        private final int[][] level = new int[MOST_MARKS][MOST_MARKS];
        private final int[] bestGroup = new int[MOST_MARKS];
        private final int[] bestLevel = new int[MOST_MARKS];
        private int bestWrong;
        private int bestCount;
        private boolean known;

        int lineCount() {
            return lineCount;
        }

        boolean addLine(int a, int b, int n) {
            if (lineCount >= MOST_LINES) {
                return false;
            }
            from[lineCount] = a;
            to[lineCount] = b;
            rise[lineCount] = n;
            lineCount++;
            known = false;
            return true;
        }

        boolean dropLine() {
            if (lineCount <= 0) {
                return false;
            }
            lineCount--;
            known = false;
            return true;
        }

        int wrongLines() {
            find();
            return bestWrong;
        }

        boolean leadsTo(int mark) {
            find();
            return bestGroup[mark] == bestGroup[0];
        }

        long heightOf(int mark) {
            find();
            return (long) bestLevel[mark] - bestLevel[0];
        }

        private void find() {
            if (known) {
                return;
            }
            for (int k = 0; k < MOST_MARKS; k++) {
                group[0][k] = k;
                level[0][k] = 0;
            }
            bestCount = MOST_LINES + 1;
            judge(lineCount - 1, 0, 0, 0);
            known = true;
        }

        /**
         * Goes from the last line down and holds each for right before it holds it for wrong: so the
         * sets of wrong lines come in the order of their numbers, and the first of a size is the least.
         */
        private void judge(int line, int row, int wrongLines, int wrongCount) {
            if (wrongCount >= bestCount) {
                return;
            }
            if (line < 0 || line >= MOST_LINES) {
                bestCount = wrongCount;
                bestWrong = wrongLines;
                System.arraycopy(group[row], 0, bestGroup, 0, MOST_MARKS);
                System.arraycopy(level[row], 0, bestLevel, 0, MOST_MARKS);
                return;
            }
            int a = from[line];
            int b = to[line];
            boolean oneGroup = group[row][a] == group[row][b];
            if (oneGroup && level[row][b] - level[row][a] == rise[line]) {
                // The lines held for right say the same: to hold this one for wrong gains nothing.
                judge(line - 1, row, wrongLines, wrongCount);
                return;
            }
            if (!oneGroup && row + 1 < MOST_MARKS) {
                join(row, line);
                judge(line - 1, row + 1, wrongLines, wrongCount);
            }
            judge(line - 1, row, wrongLines | 1 << line, wrongCount + 1);
        }

        /** Row row + 1 becomes row row with the groups of a line's two marks as one. */
        private void join(int row, int line) {
            int a = from[line];
            int b = to[line];
            int kept = group[row][a];
            int joined = group[row][b];
            int lift = level[row][a] + rise[line] - level[row][b];
            for (int k = 0; k < MOST_MARKS; k++) {
                boolean lifted = group[row][k] == joined;
                group[row + 1][k] = lifted ? kept : group[row][k];
                level[row + 1][k] = lifted ? level[row][k] + lift : level[row][k];
            }
        }
    }

    /** Holds nothing, a mark or a row. The row's place is made once and used for ints and longs alike. */
    private static final class Shelf {
        private final long[] row = new long[LONGEST_ROW];
        private int holds = HOLDS_NOTHING;
        private int size;
        private Mark mark;

        int holds() {
            return holds;
        }

        boolean holdsRow() {
            return holds == HOLDS_INTS || holds == HOLDS_LONGS;
        }

        int size() {
            return size;
        }

        Mark heldMark() {
            return mark;
        }

        long valueAt(int i) {
            return row[i];
        }

        void clear() {
            holds = HOLDS_NOTHING;
            size = 0;
            mark = null;
        }

        void holdMark(Mark m) {
            clear();
            holds = HOLDS_MARK;
            mark = m;
        }

        void holdNoughts(int what, int n) {
            clear();
            holds = what;
            size = n;
            for (int i = 0; i < n && i < LONGEST_ROW; i++) {
                row[i] = 0;
            }
        }

        /** The epochs of a series as ints, or its values as longs. */
        void holdSeries(Series series, int what) {
            holdNoughts(what, series.size());
            for (int i = 0; i < series.size() && i < LONGEST_ROW; i++) {
                row[i] = what == HOLDS_INTS ? series.epochAt(i) : series.valueAt(i);
            }
        }

        boolean hasPlaces(int i, int n) {
            return i >= 0 && n >= 0 && i <= size - n;
        }

        void copyPlaces(int i, Shelf target, int j, int n) {
            System.arraycopy(row, i, target.row, j, n);
        }
    }
}
