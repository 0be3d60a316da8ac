/** What is answered where there is nothing: no mark, no reading, no step, no line, nothing on a shelf, an empty row. */
public final class EmptyTest {
    private static final Due due = new Due();

    public static void main(String[] args) {
        noMarkToTell();
        noMarkToAsk();
        noMarkInCommon();
        nothingAtFirst();
        noReading();
        noReadingAnyMore();
        tooFewReadings();
        tooFewForAJump();
        standingOnesLeftOut();
        noStep();
        noLine();
        noLineAnyMore();
        noShelfHoldsAnything();
        nothingAnyMore();
        emptyRows();
        emptySet();
        due.end();
    }

    private static void noMarkToTell() {
        CreepBoard x = new CreepBoard();
        due.is("3 no mark", -1001, () -> x.antenna(0, 0, 0));
        due.is("4 no mark", -1, () -> x.read(0, 0, 0, 0));
        due.is("5 no mark", -1, () -> x.gap(0, 0));
        due.is("6 no mark", -1, () -> x.step(0, 0, 0, 0));
        due.is("12 no mark", -1, () -> x.velocity(0, 0, 0));
        due.is("19 no mark", -1001, () -> x.green(0, 0, 0));
        due.is("24 no mark", -1, () -> x.line(0, 1, 0));
        due.is("24 no mark, from the first to itself", -1, () -> x.line(0, 0, 0));
        due.is("29 no mark to keep", -1, () -> x.keep(0, 1, 0));
        due.is("29 no mark for ints", -1, () -> x.keep(0, 3, 0));
        due.is("29 no mark for longs", -1, () -> x.keep(0, 4, 0));
        due.is("29 nothing is kept without a mark", 0, () -> x.keep(0, 0, 0));
    }

    private static void noMarkToAsk() {
        CreepBoard x = new CreepBoard();
        due.refusesArgument("7 no mark", () -> x.cleared(0, 0, 0));
        due.is("8 no mark", -1, () -> x.many(0));
        due.refusesArgument("9 no mark", () -> x.rate(0, 0, false));
        due.is("10 no mark", -1, () -> x.jump(0, 0));
        due.refusesArgument("13 no mark", () -> x.moves(0, 0));
        due.refusesArgument("15 no mark", () -> x.strain(0, 1, 2, 0, false));
        due.refusesArgument("15 no mark, one thrice", () -> x.strain(0, 0, 0, 0, false));
        due.is("16 no mark", -1, () -> x.block(1));
        due.is("17 no mark", -3, () -> x.blocks());
        due.is("18 no mark", -1, () -> x.of(0));
        due.refusesArgument("27 no mark", () -> x.height(0));
    }

    private static void noMarkInCommon() {
        CreepBoard x = new CreepBoard();
        due.refusesState("11 no mark, first epoch", () -> x.common(0, 0));
        due.refusesState("11 no mark, last epoch", () -> x.common(39, 1));
        due.is("14 no velocity would be beyond", 1, () -> x.frame(-1000, 1000, -9));
        due.is("21 all fit", 4096, () -> x.fits());
        due.is("22 the least of all", 0, () -> x.slip(0, false));
        due.is("22 the greatest of all", 15, () -> x.slip(0, true));
        due.is("23 none is locked", 0, () -> x.locked());
        due.is("20 a tolerance without marks", 0, () -> x.tolerance(100));
        due.is("21 all fit still", 4096, () -> x.fits());
        due.is("14 a frame before there is a mark is not tied to it", 0, () -> {
            x.mark(0, 1000, 1000);
            return x.moves(0, 0);
        });
    }

    private static void nothingAtFirst() {
        CreepBoard x = new CreepBoard();
        for (int what = 0; what < 5; what++) {
            int n = what;
            due.is("1 28 count " + what, 0, () -> x.count(n));
        }
        due.is("1 20 tolerance", 0, () -> x.tolerance(0));
        for (int kind = 0; kind < 4; kind++) {
            int k = kind;
            x.mark(kind, 3, 4);
            due.is("13 east 0 at first", 0, () -> x.moves(k, 0));
            due.is("13 north 0 at first", 0, () -> x.moves(k, 1));
            due.is("12 no other velocity", 0, () -> x.velocity(k, 0, 0));
            for (int c = 0; c < 3; c++) {
                int cut = c;
                due.is("19 green 0 at first", 0, () -> x.green(k, cut, 0));
            }
        }
        due.is("3 a receiver's offset 0 at first", 0, () -> x.antenna(1, 0, 0));
        due.is("3 a standing one's offset 0 at first", 0, () -> x.antenna(2, 0, 0));
        due.is("28 four marks, no readings", 0, () -> x.count(1));
        due.is("28 four marks, no steps", 0, () -> x.count(2));
    }

    private static void noReading() {
        CreepBoard x = Grounds.kinds();
        int[] weights = {10, 110, 220, 17};
        for (int kind = 0; kind < 4; kind++) {
            int k = kind;
            for (int epoch = 0; epoch < 40; epoch += 13) {
                int e = epoch;
                due.refusesState("7 a gap at first, kind " + k, () -> x.cleared(k, e, 0));
                due.is("5 a gap already, kind " + k, 0, () -> x.gap(k, e));
            }
            due.is("8 no reading, kind " + k, 0, () -> x.many(k));
            due.refusesState("9 no reading, kind " + k, () -> x.rate(k, 0, false));
            due.refusesState("9 no reading, below, kind " + k, () -> x.rate(k, 1, true));
            due.is("10 no reading, kind " + k, -4, () -> x.jump(k, 0));
            x.keep(k, 1, k);
            due.is("33 no reading, kind " + k, weights[k], () -> x.weight(k));
            due.is("29 no epochs, kind " + k, 0, () -> x.keep(4, 3, k));
            due.refusesState("29 an empty row of ints, kind " + k, () -> x.element(4, 0));
            due.is("29 no readings, kind " + k, 0, () -> x.keep(5, 4, k));
            due.refusesState("29 an empty row of longs, kind " + k, () -> x.element(5, 0));
        }
        due.refusesState("11 no reading of any", () -> x.common(0, 0));
        due.refusesState("11 no reading of any, last epoch", () -> x.common(39, 1));
        // Steps and antennas are no readings.
        x.step(0, 0, 5, 5);
        x.antenna(1, 0, 5);
        due.refusesState("7 a step alone", () -> x.cleared(0, 0, 0));
        due.refusesState("7 an antenna alone", () -> x.cleared(1, 0, 0));
        due.is("28 neither is a reading", 0, () -> x.count(1));
    }

    private static void noReadingAnyMore() {
        CreepBoard x = Grounds.kinds();
        for (int kind = 0; kind < 4; kind++) {
            int k = kind;
            for (int e = 10; e < 20; e++) {
                x.read(k, e, 7, 7);
            }
            for (int e = 10; e < 20; e++) {
                int epoch = e;
                due.is("5 a gap again, kind " + k, 1, () -> x.gap(k, epoch));
                due.refusesState("5 7 no reading any more, kind " + k, () -> x.cleared(k, epoch, 0));
            }
            due.is("5 8 none any more, kind " + k, 0, () -> x.many(k));
            due.is("5 10 none any more, kind " + k, -4, () -> x.jump(k, 0));
            due.refusesState("5 9 none any more, kind " + k, () -> x.rate(k, 0, false));
            due.refusesState("5 11 none any more, kind " + k, () -> x.common(19, 0));
            due.is("5 28 none any more, kind " + k, 0, () -> x.count(1));
        }
    }

    private static void tooFewReadings() {
        int[] leftOut = {0, 0, 2, 0};
        for (int kind = 0; kind < 4; kind++) {
            CreepBoard x = Grounds.kinds();
            int k = kind;
            for (int e = 0; e < leftOut[k]; e++) {
                x.read(k, e, 99, 99);
            }
            x.read(k, 8, 4, 4);
            due.is("8 one cleared, kind " + k, 1, () -> x.many(k));
            due.refusesState("9 one cleared is too few, kind " + k, () -> x.rate(k, 0, false));
            due.refusesState("9 one cleared is too few, below, kind " + k, () -> x.rate(k, 0, true));
            x.read(k, 39, 4, 4);
            due.is("8 two cleared, kind " + k, 2, () -> x.many(k));
            due.is("9 two cleared are enough, kind " + k, 0, () -> x.rate(k, 0, false));
            due.is("9 0 by 1, kind " + k, 1, () -> x.rate(k, 0, true));
        }
    }

    private static void tooFewForAJump() {
        CreepBoard x = Grounds.kinds();
        int[] epochs = {0, 5, 9, 30};
        for (int i = 0; i < 4; i++) {
            due.is("10 " + i + " readings", -4, () -> x.jump(0, 0));
            x.read(0, epochs[i], 3, 3);
        }
        due.is("10 four: two ahead and two from there on", 9, () -> x.jump(0, 0));
        due.is("10 four, north", 9, () -> x.jump(0, 1));
        x.gap(0, 0);
        due.is("10 one ahead of 9 is too few", -4, () -> x.jump(0, 0));
        x.read(0, 0, 3, 3);
        x.gap(0, 30);
        due.is("10 one from 9 on is too few", -4, () -> x.jump(0, 0));
        x.read(0, 39, 1000, 3);
        due.is("10 9 has a reading, 39 has one from there on", 9, () -> x.jump(0, 0));
        x.read(0, 38, 1000, 3);
        due.is("10 now 38 has two from there on", 38, () -> x.jump(0, 0));
        x.gap(0, 38);
        x.read(0, 37, 1000, 3);
        due.is("10 38 itself has none: it is 37", 37, () -> x.jump(0, 0));
    }

    private static void standingOnesLeftOut() {
        CreepBoard x = Grounds.kinds();
        for (int n = 1; n <= 6; n++) {
            int e = 6 * n;
            x.read(2, e, n, n);
            int cleared = Math.max(0, n - 2);
            due.is("8 of " + n + " readings of a standing one", cleared, () -> x.many(2));
            due.is("28 all are readings", n, () -> x.count(1));
            if (cleared < 2) {
                due.refusesState("9 too few with " + n, () -> x.rate(2, 0, false));
            }
            due.is("10 with " + n, n < 6 ? -4 : 30, () -> x.jump(2, 0));
        }
        due.refusesState("11 left out, the first", () -> x.common(6, 0));
        due.refusesState("11 left out, the second", () -> x.common(12, 0));
        due.is("11 the third is the first that is cleared", 0, () -> x.common(18, 0));
        due.is("11 from there on", 3, () -> x.common(36, 0));
        due.is("29 epochs without those left out", 18, () -> {
            x.keep(0, 3, 2);
            return x.element(0, 0);
        });
    }

    private static void noStep() {
        CreepBoard x = Grounds.alike(0, 1);
        due.is("7 less nothing, east", 3, () -> x.cleared(0, 3, 0));
        due.is("7 less nothing, north", -3, () -> x.cleared(0, 3, 1));
        due.is("28 no step", 0, () -> x.count(2));
        due.is("6 a step of nothing is one", 1, () -> x.step(0, 0, 0, 0));
        due.is("6 7 less nought", 3, () -> x.cleared(0, 3, 0));
        due.is("28 one step", 1, () -> x.count(2));
    }

    private static void noLine() {
        CreepBoard x = Grounds.kinds();
        due.is("25 none", -3, () -> x.unline());
        due.is("26 how many", 0, () -> x.wrong(0));
        due.is("26 bits", 0, () -> x.wrong(1));
        due.is("27 mark 0 over itself", 0, () -> x.height(0));
        due.refusesState("27 no lines lead to mark 1", () -> x.height(1));
        due.refusesState("27 no lines lead to mark 3", () -> x.height(3));
        x.line(1, 2, 5);
        due.is("27 mark 0 without a line of its own", 0, () -> x.height(0));
        due.refusesState("27 lines, but none from mark 0", () -> x.height(2));
        due.is("26 one line agrees", 0, () -> x.wrong(0));
    }

    private static void noLineAnyMore() {
        CreepBoard x = Grounds.kinds();
        x.line(0, 1, 5);
        x.line(0, 1, 6);
        due.is("26 one of two", 1, () -> x.wrong(0));
        due.is("25 one left", 1, () -> x.unline());
        due.is("26 none wrong any more", 0, () -> x.wrong(1));
        due.is("25 none left", 0, () -> x.unline());
        due.is("25 none to go", -3, () -> x.unline());
        due.is("26 none at all", 0, () -> x.wrong(1));
        due.refusesState("27 none leads there any more", () -> x.height(1));
        due.is("24 the first number again", 0, () -> x.line(2, 3, 1));
    }

    private static void noShelfHoldsAnything() {
        CreepBoard x = new CreepBoard();
        x.make(1, 3, 1);
        for (int shelf = 0; shelf < 8; shelf++) {
            int d = shelf;
            if (d != 1) {
                due.refusesState("31 nothing at first on " + d, () -> x.element(d, 0));
                due.is("32 nothing at first on " + d, -11, () -> x.copy(d, 0, 1, 0, 0));
                due.is("32 nothing at first on " + d + " to come to", -11, () -> x.copy(1, 0, d, 0, 0));
                due.is("33 nothing at first on " + d, -1011, () -> x.weight(d));
                due.is("34 nothing at first on " + d, -11, () -> x.toss(d));
            }
        }
    }

    private static void nothingAnyMore() {
        for (int held : new int[] {1, 3, 4}) {
            CreepBoard x = Grounds.alike(1, 1);
            x.make(0, 3, 1);
            x.keep(3, held, 0);
            due.is("29 nothing in place of " + held, 0, () -> x.keep(3, 0, 0));
            due.refusesState("31 nothing any more", () -> x.element(3, 0));
            due.is("32 nothing any more", -11, () -> x.copy(3, 0, 0, 0, 0));
            due.is("33 nothing any more", -1011, () -> x.weight(3));
            due.is("34 nothing any more", -11, () -> x.toss(3));
            due.is("29 nothing in place of nothing", 0, () -> x.keep(3, 0, 0));
            due.is("34 nothing still", -11, () -> x.toss(3));
        }
    }

    private static void emptyRows() {
        for (int kind = 3; kind <= 4; kind++) {
            int what = kind;
            CreepBoard x = Grounds.kinds();
            x.make(0, what, 0);
            x.keep(1, what, 0);
            x.make(2, what, 1);
            x.make(3, what == 3 ? 4 : 3, 0);
            for (int shelf = 0; shelf < 2; shelf++) {
                int d = shelf;
                due.refusesState("31 no place 0", () -> x.element(d, 0));
                due.refusesState("31 no place -1", () -> x.element(d, -1));
                due.is("32 none out of it", 0, () -> x.copy(d, 0, 2, 0, 0));
                due.is("32 none into it", 0, () -> x.copy(2, 0, d, 0, 0));
                due.is("32 none out of the end into it", 0, () -> x.copy(2, 1, d, 0, 0));
                due.is("32 none onto itself", 0, () -> x.copy(d, 0, d, 0, 0));
                due.is("32 one out of it", -13, () -> x.copy(d, 0, 2, 0, 1));
                due.is("32 one into it", -13, () -> x.copy(2, 0, d, 0, 1));
                due.is("32 none beyond it", -13, () -> x.copy(d, 1, 2, 0, 0));
                due.is("32 none to beyond it", -13, () -> x.copy(2, 0, d, 1, 0));
                due.is("32 an empty one of the other kind", -12, () -> x.copy(d, 0, 3, 0, 0));
                due.is("33 it is no mark", -1012, () -> x.weight(d));
                due.is("34 it is no mark", -12, () -> x.toss(d));
            }
        }
    }

    private static void emptySet() {
        for (int marks = 0; marks <= 10; marks++) {
            CreepBoard x = Grounds.alike(0, marks);
            due.is("16 the empty set of " + marks + " marks", -1, () -> x.block(0));
        }
    }
}
