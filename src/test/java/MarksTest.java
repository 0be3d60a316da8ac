/** Promises 1 to 11: marks and readings. */
public final class MarksTest {
    private static final Due due = new Due();

    public static void main(String[] args) {
        newObject();
        mark();
        antenna();
        read();
        gap();
        step();
        clearedOfPlain();
        clearedInWhateverOrder();
        stepsAreTheMarksOwn();
        clearedOfReceiver();
        clearedOfStanding();
        clearedOfBuoy();
        clearedRefusals();
        many();
        rate();
        rateAtTheEdges();
        jump();
        jumpOfUnevenParts();
        jumpsEquallyFar();
        common();
        due.end();
    }

    private static void newObject() {
        CreepBoard x = new CreepBoard();
        due.is("1 no marks", 0, () -> x.count(0));
        due.is("1 no readings", 0, () -> x.count(1));
        due.is("1 no steps", 0, () -> x.count(2));
        due.is("1 no lines", 0, () -> x.count(3));
        due.is("1 no tolerance", 0, () -> x.count(4));
        due.is("1 no mark 0", -1, () -> x.many(0));
        due.is("1 no line to take away", -3, () -> x.unline());
        CreepBoard y = new CreepBoard();
        y.mark(0, 0, 0);
        due.is("1 objects share nothing", 0, () -> x.count(0));
    }

    private static void mark() {
        CreepBoard x = new CreepBoard();
        due.is("2 kind below", -1, () -> x.mark(-1, 0, 0));
        due.is("2 kind above", -1, () -> x.mark(4, 0, 0));
        due.is("2 x above", -1, () -> x.mark(0, 1001, 0));
        due.is("2 x below", -1, () -> x.mark(0, -1001, 0));
        due.is("2 y above", -1, () -> x.mark(0, 0, 1001));
        due.is("2 y below", -1, () -> x.mark(0, 0, -1001));
        due.is("2 far below", -1, () -> x.mark(0, Integer.MIN_VALUE, 0));
        due.is("2 refused ones change nothing", 0, () -> x.count(0));
        for (int k = 0; k < 10; k++) {
            int n = k;
            due.is("2 mark " + k, k, () -> x.mark(n % 4, n % 2 == 0 ? 1000 : -1000, n % 2 == 0 ? -1000 : 1000));
        }
        due.is("2 an eleventh", -2, () -> x.mark(0, 0, 0));
        due.is("2 out of range goes first", -1, () -> x.mark(4, 0, 0));
        due.is("2 ten marks", 10, () -> x.count(0));
    }

    private static void antenna() {
        CreepBoard x = new CreepBoard();
        for (int kind = 0; kind < 4; kind++) {
            x.mark(kind, 0, 0);
        }
        due.is("3 plain", -1003, () -> x.antenna(0, 0, 1));
        due.is("3 buoy", -1003, () -> x.antenna(3, 0, 1));
        due.is("3 receiver", 0, () -> x.antenna(1, 0, 99));
        due.is("3 standing", 0, () -> x.antenna(2, 39, -99));
        due.is("3 the one before", 99, () -> x.antenna(1, 39, -1));
        due.is("3 the one before, below 0", -1, () -> x.antenna(1, 5, 5));
        due.is("3 no mark", -1001, () -> x.antenna(4, 0, 0));
        due.is("3 no mark below", -1001, () -> x.antenna(-1, 0, 0));
        due.is("3 no epoch", -1001, () -> x.antenna(1, 40, 0));
        due.is("3 no epoch below", -1001, () -> x.antenna(1, -1, 0));
        due.is("3 offset above", -1001, () -> x.antenna(1, 0, 100));
        due.is("3 offset below", -1001, () -> x.antenna(1, 0, -100));
        due.is("3 out of range goes first", -1001, () -> x.antenna(0, 40, 0));
        due.is("3 refused ones change nothing", 5, () -> x.antenna(1, 0, 0));
    }

    private static void read() {
        CreepBoard x = new CreepBoard();
        x.mark(0, 0, 0);
        due.is("4 first", 1, () -> x.read(0, 0, 100000, -100000));
        due.is("4 again", 0, () -> x.read(0, 0, -100000, 100000));
        due.is("4 the later one stays, east", -100000, () -> x.cleared(0, 0, 0));
        due.is("4 the later one stays, north", 100000, () -> x.cleared(0, 0, 1));
        due.is("4 last epoch", 1, () -> x.read(0, 39, 0, 0));
        due.is("4 no mark", -1, () -> x.read(1, 0, 0, 0));
        due.is("4 no mark below", -1, () -> x.read(-1, 0, 0, 0));
        due.is("4 no epoch", -1, () -> x.read(0, 40, 0, 0));
        due.is("4 no epoch below", -1, () -> x.read(0, -1, 0, 0));
        due.is("4 east above", -1, () -> x.read(0, 0, 100001, 0));
        due.is("4 east below", -1, () -> x.read(0, 0, -100001, 0));
        due.is("4 north above", -1, () -> x.read(0, 0, 0, 100001));
        due.is("4 north below", -1, () -> x.read(0, 0, 0, -100001));
        due.is("4 refused ones change nothing", -100000, () -> x.cleared(0, 0, 0));
        due.is("4 two readings", 2, () -> x.count(1));
    }

    private static void gap() {
        CreepBoard x = new CreepBoard();
        x.mark(0, 0, 0);
        x.read(0, 39, 3, 3);
        due.is("5 none was there", 0, () -> x.gap(0, 0));
        due.is("5 one was there", 1, () -> x.gap(0, 39));
        due.is("5 now none", 0, () -> x.gap(0, 39));
        due.refusesState("5 none to be cleared", () -> x.cleared(0, 39, 0));
        due.is("5 none counted", 0, () -> x.count(1));
        due.is("5 a reading anew", 1, () -> x.read(0, 39, 4, 4));
        due.is("5 no mark", -1, () -> x.gap(1, 0));
        due.is("5 no mark below", -1, () -> x.gap(-1, 0));
        due.is("5 no epoch", -1, () -> x.gap(0, 40));
        due.is("5 no epoch below", -1, () -> x.gap(0, -1));
    }

    private static void step() {
        CreepBoard x = new CreepBoard();
        x.mark(0, 0, 0);
        x.mark(0, 1, 1);
        due.is("6 no mark", -1, () -> x.step(2, 0, 0, 0));
        due.is("6 no epoch", -1, () -> x.step(0, 40, 0, 0));
        due.is("6 no epoch below", -1, () -> x.step(0, -1, 0, 0));
        due.is("6 east above", -1, () -> x.step(0, 0, 10001, 0));
        due.is("6 east below", -1, () -> x.step(0, 0, -10001, 0));
        due.is("6 north above", -1, () -> x.step(0, 0, 0, 10001));
        due.is("6 north below", -1, () -> x.step(0, 0, 0, -10001));
        due.is("6 refused ones change nothing", 0, () -> x.count(2));
        for (int k = 1; k <= 10; k++) {
            int n = k;
            due.is("6 step " + k, k, () -> x.step(0, 39, n % 2 == 0 ? 10000 : -10000, n % 2 == 0 ? -10000 : 10000));
        }
        due.is("6 an eleventh", -2, () -> x.step(0, 0, 0, 0));
        due.is("6 out of range goes first", -1, () -> x.step(0, 40, 0, 0));
        due.is("6 another mark has its own", 1, () -> x.step(1, 0, 0, 0));
        due.is("6 all steps", 11, () -> x.count(2));
    }

    private static void clearedOfPlain() {
        CreepBoard x = new CreepBoard();
        x.mark(0, 0, 0);
        x.read(0, 4, 100, 200);
        x.read(0, 5, 100, 200);
        x.read(0, 6, 100, 200);
        x.step(0, 5, 10, -20);
        x.step(0, 6, 1, 2);
        x.step(0, 5, 3, 0);
        due.is("7 ahead of all steps", 100, () -> x.cleared(0, 4, 0));
        due.is("7 in the steps' epoch, east", 87, () -> x.cleared(0, 5, 0));
        due.is("7 in the steps' epoch, north", 220, () -> x.cleared(0, 5, 1));
        due.is("7 behind all steps, east", 86, () -> x.cleared(0, 6, 0));
        due.is("7 behind all steps, north", 218, () -> x.cleared(0, 6, 1));
    }

    /** A step is taken off from its epoch on, whether the reading was told before or after it. */
    private static void clearedInWhateverOrder() {
        CreepBoard x = new CreepBoard();
        x.mark(1, 0, 0);
        x.step(0, 5, 10, -20);
        x.antenna(0, 6, 3);
        for (int e = 4; e <= 6; e++) {
            x.read(0, e, 100, 200);
        }
        due.is("7 told after the step, ahead of it", 100, () -> x.cleared(0, 4, 0));
        due.is("7 told after the step, east", 90, () -> x.cleared(0, 5, 0));
        due.is("7 told after the step, north", 220, () -> x.cleared(0, 5, 1));
        due.is("7 told after the step and the antenna", 87, () -> x.cleared(0, 6, 0));
        x.read(0, 6, 50, 60);
        due.is("7 told anew, east", 37, () -> x.cleared(0, 6, 0));
        due.is("7 told anew, north", 77, () -> x.cleared(0, 6, 1));
        x.gap(0, 6);
        due.is("7 a gap elsewhere leaves the step", 90, () -> x.cleared(0, 5, 0));
        due.is("7 a gap leaves the steps", 1, () -> x.count(2));
        x.read(0, 6, -50, -60);
        due.is("7 told anew after a gap, east", -63, () -> x.cleared(0, 6, 0));
        due.is("7 told anew after a gap, north", -43, () -> x.cleared(0, 6, 1));
    }

    private static void stepsAreTheMarksOwn() {
        CreepBoard x = new CreepBoard();
        for (int k = 0; k < 3; k++) {
            x.mark(0, 0, 0);
            x.read(k, 1, 100, 100);
            x.read(k, 9, 100, 100);
        }
        x.step(0, 0, 1, 2);
        x.step(1, 5, 30, 40);
        due.is("7 mark 0, ahead of the other's step", 99, () -> x.cleared(0, 1, 0));
        due.is("7 mark 0, from there on", 98, () -> x.cleared(0, 9, 1));
        due.is("7 mark 1, ahead of its step", 100, () -> x.cleared(1, 1, 0));
        due.is("7 mark 1, from its step on", 60, () -> x.cleared(1, 9, 1));
        due.is("7 mark 2 has none", 100, () -> x.cleared(2, 9, 0));
        due.is("6 mark 1 has two now", 2, () -> x.step(1, 9, 1, 1));
        due.is("6 mark 2 has one now", 1, () -> x.step(2, 9, 1, 1));
    }

    private static void clearedOfReceiver() {
        CreepBoard x = new CreepBoard();
        x.mark(1, 0, 0);
        x.read(0, 2, 50, 60);
        x.read(0, 3, 50, 60);
        x.antenna(0, 3, 7);
        due.is("7 ahead of the antenna", 50, () -> x.cleared(0, 2, 0));
        due.is("7 from the antenna on, east", 43, () -> x.cleared(0, 3, 0));
        due.is("7 from the antenna on, north", 53, () -> x.cleared(0, 3, 1));
        x.step(0, 0, 1, 1);
        due.is("7 step and antenna", 42, () -> x.cleared(0, 3, 0));
        x.antenna(0, 0, -5);
        due.is("7 the antenna in place of the one before, 2", 54, () -> x.cleared(0, 2, 0));
        due.is("7 the antenna in place of the one before, 3", 54, () -> x.cleared(0, 3, 0));
        x.antenna(0, 3, 9);
        due.is("7 0 ahead of a later antenna", 49, () -> x.cleared(0, 2, 0));
        due.is("7 a later antenna from there on", 40, () -> x.cleared(0, 3, 0));
        x.antenna(0, 39, 9);
        due.is("7 the same offset from later on", 49, () -> x.cleared(0, 3, 0));
        x.antenna(0, 1, 0);
        due.is("7 no offset any more", 49, () -> x.cleared(0, 3, 0));
        due.is("7 no offset any more, north", 59, () -> x.cleared(0, 3, 1));
    }

    private static void clearedOfStanding() {
        CreepBoard x = new CreepBoard();
        x.mark(2, 0, 0);
        x.antenna(0, 10, 2);
        x.read(0, 3, 1, 1);
        x.read(0, 20, 30, 40);
        x.read(0, 39, 50, 60);
        due.refusesState("7 first left out", () -> x.cleared(0, 3, 0));
        due.refusesState("7 second left out", () -> x.cleared(0, 20, 0));
        due.is("7 third stays, less the antenna", 48, () -> x.cleared(0, 39, 0));
        x.gap(0, 3);
        due.refusesState("7 third is the second now", () -> x.cleared(0, 39, 0));
        x.read(0, 0, 0, 0);
        x.read(0, 1, 0, 0);
        due.is("7 third now, east", 28, () -> x.cleared(0, 20, 0));
        due.is("7 third now, north", 38, () -> x.cleared(0, 20, 1));
    }

    private static void clearedOfBuoy() {
        CreepBoard x = new CreepBoard();
        x.mark(3, 0, 0);
        x.read(0, 1, 10, -10);
        x.read(0, 5, 11, -11);
        x.read(0, 37, 20, -20);
        x.read(0, 2, 1000, 1000);
        due.is("7 cut mean 13, east", -3, () -> x.cleared(0, 1, 0));
        due.is("7 cut mean -13, north", 3, () -> x.cleared(0, 1, 1));
        due.is("7 last of the season", 7, () -> x.cleared(0, 37, 0));
        due.is("7 alone in its season", 0, () -> x.cleared(0, 2, 0));
        x.read(0, 0, 7, 0);
        x.read(0, 36, 9, 0);
        x.read(0, 3, 7, 0);
        x.read(0, 39, 9, 0);
        due.is("7 the season of 0", 1, () -> x.cleared(0, 36, 0));
        due.is("7 the season of 3", 1, () -> x.cleared(0, 39, 0));
        x.step(0, 5, 100, 0);
        due.is("7 the mean is without steps", -3, () -> x.cleared(0, 1, 0));
        due.is("7 the reading is less the step", -102, () -> x.cleared(0, 5, 0));
        x.gap(0, 37);
        due.is("7 the mean without a reading that is gone", 0, () -> x.cleared(0, 1, 0));
        x.read(0, 5, 31, -11);
        due.is("7 the mean with another reading", -10, () -> x.cleared(0, 1, 0));
    }

    private static void clearedRefusals() {
        CreepBoard x = new CreepBoard();
        due.refusesArgument("7 no mark at all", () -> x.cleared(0, 0, 0));
        x.mark(0, 0, 0);
        due.refusesState("7 a gap at first", () -> x.cleared(0, 0, 0));
        due.refusesArgument("7 no mark", () -> x.cleared(1, 0, 0));
        due.refusesArgument("7 no mark below", () -> x.cleared(-1, 0, 0));
        due.refusesArgument("7 no epoch", () -> x.cleared(0, 40, 0));
        due.refusesArgument("7 no epoch below", () -> x.cleared(0, -1, 0));
        due.refusesArgument("7 no side", () -> x.cleared(0, 0, 2));
        due.refusesArgument("7 no side below", () -> x.cleared(0, 0, -1));
    }

    private static void many() {
        CreepBoard x = new CreepBoard();
        x.mark(0, 0, 0);
        x.mark(2, 0, 0);
        due.is("8 none", 0, () -> x.many(0));
        due.is("8 none of a standing one", 0, () -> x.many(1));
        x.read(1, 39, 0, 0);
        due.is("8 one, left out", 0, () -> x.many(1));
        due.is("8 no mark", -1, () -> x.many(2));
        due.is("8 no mark below", -1, () -> x.many(-1));
        for (int e = 0; e < 40; e++) {
            x.read(0, e, 0, 0);
            x.read(1, e, 0, 0);
        }
        due.is("8 all epochs", 40, () -> x.many(0));
        due.is("8 standing less two", 38, () -> x.many(1));
        x.gap(1, 0);
        x.gap(1, 20);
        due.is("8 standing with gaps", 36, () -> x.many(1));
    }

    private static void rate() {
        CreepBoard x = new CreepBoard();
        x.mark(0, 0, 0);
        due.refusesState("9 no reading", () -> x.rate(0, 0, false));
        x.read(0, 10, 7, 5);
        due.refusesState("9 one reading", () -> x.rate(0, 0, true));
        x.read(0, 16, 3, 5);
        due.is("9 below 0, above the line", -2, () -> x.rate(0, 0, false));
        due.is("9 below 0, below the line", 3, () -> x.rate(0, 0, true));
        due.is("9 nought above the line", 0, () -> x.rate(0, 1, false));
        due.is("9 nought below the line", 1, () -> x.rate(0, 1, true));
        x.read(0, 11, 100, 6);
        due.is("9 three, above the line", -208, () -> x.rate(0, 0, false));
        due.is("9 three, below the line", 31, () -> x.rate(0, 0, true));
        due.refusesArgument("9 no mark", () -> x.rate(1, 0, false));
        due.refusesArgument("9 no mark below", () -> x.rate(-1, 0, false));
        due.refusesArgument("9 no side", () -> x.rate(0, 2, false));
        due.refusesArgument("9 no side below", () -> x.rate(0, -1, false));
        x.mark(0, 1, 1);
        due.refusesArgument("9 no side goes ahead of no readings", () -> x.rate(1, 2, false));
    }

    private static void rateAtTheEdges() {
        CreepBoard x = new CreepBoard();
        x.mark(0, 0, 0);
        for (int e = 0; e < 40; e++) {
            x.read(0, e, e < 20 ? -100000 : 100000, 0);
        }
        for (int i = 0; i < 10; i++) {
            x.step(0, 20, -10000, 0);
        }
        // n 40, sum t 780, sum t z (steps off) 590 * 200000 - 190 * 100000, sum z 2000000.
        due.is("9 great sums, above the line", 6000000, () -> x.rate(0, 0, false));
        due.is("9 great sums, below the line", 533, () -> x.rate(0, 0, true));
        CreepBoard y = new CreepBoard();
        y.mark(2, 0, 0);
        for (int e = 0; e < 4; e++) {
            y.read(0, e, e * e * 10, 0);
        }
        due.is("9 of cleared readings alone", 50, () -> y.rate(0, 0, false));
    }

    private static void jump() {
        CreepBoard x = new CreepBoard();
        x.mark(0, 0, 0);
        due.is("10 no reading", -4, () -> x.jump(0, 0));
        x.read(0, 0, 0, 0);
        x.read(0, 3, 0, 9);
        x.read(0, 7, 5, 9);
        due.is("10 three readings are too few", -4, () -> x.jump(0, 0));
        x.read(0, 39, 5, 9);
        due.is("10 four readings", 7, () -> x.jump(0, 0));
        due.is("10 the only place", 7, () -> x.jump(0, 1));
        due.is("10 no mark", -1, () -> x.jump(1, 0));
        due.is("10 no mark below", -1, () -> x.jump(-1, 0));
        due.is("10 no side", -1, () -> x.jump(0, 2));
        due.is("10 no side below", -1, () -> x.jump(0, -1));
        CreepBoard y = new CreepBoard();
        y.mark(0, 0, 0);
        int[] z = {0, 0, 0, 10, 10, 10};
        for (int e = 0; e < 6; e++) {
            y.read(0, e + 10, -z[e], 4);
        }
        due.is("10 in the middle, downward", 13, () -> y.jump(0, 0));
        due.is("10 of all alike the first", 12, () -> y.jump(0, 1));
        CreepBoard w = new CreepBoard();
        w.mark(0, 0, 0);
        // East the means are apart by 1/4, 2/3, 1/2; north by 1/2, 2/3, 1/4: cut ones would tell otherwise.
        int[] fine = {0, 1, 0, 1, 2, 0};
        for (int e = 0; e < 6; e++) {
            w.read(0, e, fine[e], fine[5 - e]);
        }
        due.is("10 fractions, not cut", 3, () -> w.jump(0, 0));
        due.is("10 fractions, not cut, north", 3, () -> w.jump(0, 1));
        w.step(0, 4, -100, 0);
        due.is("10 of cleared readings", 4, () -> w.jump(0, 0));
    }

    private static void jumpOfUnevenParts() {
        CreepBoard x = new CreepBoard();
        x.mark(0, 0, 0);
        x.mark(0, 0, 0);
        for (int e = 0; e < 40; e++) {
            x.read(0, e, e < 38 ? 0 : 100000, e < 2 ? 100000 : 0);
        }
        due.is("10 at the last place", 38, () -> x.jump(0, 0));
        due.is("10 at the first place", 2, () -> x.jump(0, 1));
        int[] z = {6, -9, -3, -9, -6, -2, 6, -4};
        for (int e = 0; e < 8; e++) {
            x.read(1, e, z[e], -z[e]);
        }
        due.is("10 means, not sums", 6, () -> x.jump(1, 0));
        due.is("10 means, not sums, turned", 6, () -> x.jump(1, 1));
        x.mark(0, 0, 0);
        for (int e = 0; e < 6; e++) {
            x.read(2, e, e == 0 ? 50 : 0, e == 5 ? 50 : 0);
        }
        due.is("10 the first reading counts", 2, () -> x.jump(2, 0));
        due.is("10 the last reading counts", 4, () -> x.jump(2, 1));
    }

    private static void jumpsEquallyFar() {
        CreepBoard x = new CreepBoard();
        x.mark(0, 0, 0);
        // At the third and at the fourth reading the means are apart by 5/3.
        int[] z = {2, 2, 1, 0, 0};
        for (int i = 0; i < 5; i++) {
            x.read(0, 7 * i, z[i], -z[i]);
        }
        due.is("10 of two the first, downward", 14, () -> x.jump(0, 0));
        due.is("10 of two the first, upward", 14, () -> x.jump(0, 1));
        x.read(0, 14, 2, -2);
        due.is("10 the second is farther now", 21, () -> x.jump(0, 0));
        due.is("10 the second is farther now, upward", 21, () -> x.jump(0, 1));
        x.read(0, 14, 0, 0);
        due.is("10 the first is farther now", 14, () -> x.jump(0, 0));
        due.is("10 the first is farther now, upward", 14, () -> x.jump(0, 1));
    }

    private static void common() {
        CreepBoard x = new CreepBoard();
        due.refusesState("11 no mark", () -> x.common(0, 0));
        due.refusesArgument("11 no epoch", () -> x.common(40, 0));
        due.refusesArgument("11 no epoch below", () -> x.common(-1, 0));
        due.refusesArgument("11 no side", () -> x.common(0, 2));
        due.refusesArgument("11 no side below", () -> x.common(0, -1));
        x.mark(0, 0, 0);
        x.mark(1, 0, 0);
        x.mark(2, 0, 0);
        x.read(0, 1, 10, 0);
        x.read(0, 5, 13, -3);
        x.read(1, 2, 100, 0);
        x.read(1, 5, 104, -4);
        x.read(2, 1, 0, 0);
        x.read(2, 5, 999, 999);
        due.is("11 cut, of two marks", 3, () -> x.common(5, 0));
        due.is("11 cut towards 0", -3, () -> x.common(5, 1));
        due.is("11 first ones are 0", 0, () -> x.common(1, 0));
        x.read(2, 0, 0, 0);
        due.is("11 a first cleared one comes in", 2, () -> x.common(5, 0));
        x.antenna(1, 5, 50);
        due.is("11 cleared of the antenna", -14, () -> x.common(5, 0));
        due.refusesState("11 none there", () -> x.common(6, 0));
        due.refusesState("11 left out there", () -> x.common(0, 0));
    }
}
