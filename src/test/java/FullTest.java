/** What is answered where no more can be held: 10 marks, 10 steps, 40 readings, 14 lines, 8 shelves, rows of 60. */
public final class FullTest {
    private static final Due due = new Due();

    public static void main(String[] args) {
        tenMarks();
        tenMarksAreTheirOwn();
        tenSteps();
        tenStepsOfTenMarks();
        fortyReadings();
        fortyReadingsOfTenMarks();
        fourteenLines();
        roomForALineAgain();
        fourteenWrongOrRight();
        eightShelves();
        rowsOfSixty();
        tenInOneBlock();
        tenBlocks();
        greatestNumbers();
        weightsAtTheirEnds();
        lastOfAllCalls();
        due.end();
    }

    private static void tenMarks() {
        for (int kind = 0; kind < 4; kind++) {
            CreepBoard x = new CreepBoard();
            int k = kind;
            for (int n = 0; n < 10; n++) {
                due.is("2 mark " + n + " of kind " + k, n, () -> x.mark(k, 1, 1));
                due.is("28 so many", n + 1, () -> x.count(0));
            }
            for (int other = 0; other < 4; other++) {
                int o = other;
                due.is("2 an eleventh, of kind " + o, -2, () -> x.mark(o, 0, 0));
            }
            due.is("28 ten still", 10, () -> x.count(0));
            due.is("8 the tenth is there", 0, () -> x.many(9));
            due.is("8 an eleventh is not", -1, () -> x.many(10));
        }
    }

    private static void tenMarksAreTheirOwn() {
        CreepBoard x = Grounds.alike(1, 10);
        for (int n = 0; n < 10; n++) {
            int k = n;
            x.antenna(k, 39, k + 1);
            x.green(k, 1, k - 5);
        }
        for (int n = 0; n < 10; n++) {
            int k = n;
            due.is("7 mark " + k, 10 * k + 2, () -> x.cleared(k, 2, 0));
            due.is("13 mark " + k, -k - 1, () -> x.moves(k, 1));
            due.is("3 mark " + k, k + 1, () -> x.antenna(k, 0, 0));
            due.is("19 mark " + k, k - 5, () -> x.green(k, 1, 0));
            x.keep(k % 8, 1, k);
            due.is("33 mark " + k, 114, () -> x.weight(k % 8));
            due.is("34 mark " + k, k, () -> x.toss(k % 8));
        }
    }

    private static void tenSteps() {
        CreepBoard x = new CreepBoard();
        x.mark(0, 0, 0);
        x.mark(0, 0, 0);
        for (int e = 0; e < 11; e++) {
            x.read(0, e, 5000, -5000);
        }
        for (int i = 0; i < 10; i++) {
            int n = i;
            due.is("6 step " + i, i + 1, () -> x.step(0, n, 1 << n, -(1 << n)));
        }
        for (int e = 0; e < 10; e++) {
            int epoch = e;
            int sum = (2 << e) - 1;
            due.is("7 less those up to " + e, 5000 - sum, () -> x.cleared(0, epoch, 0));
            due.is("7 less those up to " + e + ", north", -5000 + sum, () -> x.cleared(0, epoch, 1));
        }
        due.is("6 an eleventh", -2, () -> x.step(0, 0, 2000, 2000));
        due.is("6 an eleventh of nothing", -2, () -> x.step(0, 39, 0, 0));
        due.is("7 the eleventh is not taken off", 4999, () -> x.cleared(0, 0, 0));
        due.is("7 nor behind", 3977, () -> x.cleared(0, 10, 0));
        due.is("28 ten", 10, () -> x.count(2));
        due.is("6 the other mark has room", 1, () -> x.step(1, 0, 0, 0));
    }

    private static void tenStepsOfTenMarks() {
        CreepBoard x = Grounds.alike(0, 10);
        for (int n = 0; n < 100; n++) {
            int k = n % 10;
            int i = n / 10;
            due.is("6 step " + i + " of mark " + k, i + 1, () -> x.step(k, 0, 1000, 1));
        }
        due.is("28 a hundred", 100, () -> x.count(2));
        for (int n = 0; n < 10; n++) {
            int k = n;
            due.is("6 an eleventh of mark " + k, -2, () -> x.step(k, 0, 1, 1));
            due.is("7 less all ten of mark " + k, 10 * k - 10000, () -> x.cleared(k, 0, 0));
        }
        due.is("28 a hundred still", 100, () -> x.count(2));
    }

    private static void fortyReadings() {
        int[] many = {40, 40, 38, 40};
        for (int kind = 0; kind < 4; kind++) {
            CreepBoard x = Grounds.kinds();
            int k = kind;
            for (int e = 0; e < 40; e++) {
                int epoch = e;
                due.is("4 epoch " + e + ", kind " + k, 1, () -> x.read(k, epoch, 3 * epoch, 0));
            }
            due.is("8 all of kind " + k, many[k], () -> x.many(k));
            due.is("28 all", 40, () -> x.count(1));
            x.keep(0, 3, k);
            x.keep(1, 4, k);
            due.is("29 the last epoch, kind " + k, 39, () -> x.element(0, many[k] - 1));
            due.refusesState("29 none behind, kind " + k, () -> x.element(0, many[k]));
            due.is("29 the last reading, kind " + k, k == 3 ? 54 : 117, () -> x.element(1, many[k] - 1));
            due.refusesState("29 no reading behind, kind " + k, () -> x.element(1, many[k]));
            due.is("10 the first place for a jump, kind " + k, k == 2 ? 4 : 2, () -> x.jump(k, 1));
            due.is("4 again, kind " + k, 0, () -> x.read(k, 39, 0, 0));
        }
    }

    private static void fortyReadingsOfTenMarks() {
        CreepBoard x = new CreepBoard();
        for (int k = 0; k < 10; k++) {
            x.mark(k % 4, 0, 0);
            for (int e = 0; e < 40; e++) {
                x.read(k, e, e < 2 ? 50 : e, k);
            }
        }
        due.is("28 four hundred", 400, () -> x.count(1));
        // Plain ones and receivers 39 - 50, standing ones 39 - 2, buoys 39 - 21 less 50 - 23.
        due.is("11 of ten marks: -11 six times, 37 twice, -9 twice", -1, () -> x.common(39, 0));
        due.is("11 of ten marks, north", 0, () -> x.common(39, 1));
        due.is("11 in the first epoch", 0, () -> x.common(0, 0));
    }

    private static void fourteenLines() {
        CreepBoard x = Grounds.alike(0, 10);
        for (int i = 0; i < 14; i++) {
            int n = i;
            due.is("24 line " + i, i, () -> x.line(n % 10, (n + 1) % 10, 0));
            due.is("28 so many", i + 1, () -> x.count(3));
        }
        due.is("24 a fifteenth", -2, () -> x.line(0, 1, 0));
        due.is("24 a fifteenth that doesn't agree", -2, () -> x.line(0, 1, 7));
        due.is("28 fourteen still", 14, () -> x.count(3));
        due.is("26 all agree still", 0, () -> x.wrong(0));
    }

    private static void roomForALineAgain() {
        CreepBoard x = Grounds.alike(0, 3);
        for (int i = 0; i < 13; i++) {
            x.line(0, 1, 4);
        }
        x.line(1, 2, 5);
        due.is("24 full", -2, () -> x.line(1, 2, 6));
        due.is("27 by the fourteenth", 9, () -> x.height(2));
        due.is("25 the last goes", 13, () -> x.unline());
        due.refusesState("27 none leads there", () -> x.height(2));
        due.is("24 its number again", 13, () -> x.line(2, 1, 6));
        due.is("27 by the new fourteenth", -2, () -> x.height(2));
        due.is("24 full again", -2, () -> x.line(1, 2, 6));
        for (int left = 13; left >= 0; left--) {
            due.is("25 down to " + left, left, () -> x.unline());
        }
        due.is("25 none left", -3, () -> x.unline());
    }

    private static void fourteenWrongOrRight() {
        CreepBoard x = Grounds.alike(0, 2);
        for (int i = 0; i < 14; i++) {
            x.line(0, 1, 10 * i);
        }
        due.is("26 all but one", 13, () -> x.wrong(0));
        due.is("26 all but the last", (1 << 13) - 1, () -> x.wrong(1));
        due.is("27 by the last", 130, () -> x.height(1));
        due.is("26 ten against four: the four", 15 << 10, () -> against(10).wrong(1));
        due.is("27 by the ten", 3, () -> against(10).height(1));
        due.is("26 four against ten: the four", 15, () -> against(4).wrong(1));
        due.is("27 by the ten at the end", -3, () -> against(4).height(1));
        due.is("26 seven against seven: the least bits", 127, () -> against(7).wrong(1));
        due.is("27 by the seven at the end", -3, () -> against(7).height(1));
    }

    /** Fourteen lines, up and down in turn, of which the first n say that mark 1 is at 3, the others at -3. */
    private static CreepBoard against(int n) {
        CreepBoard x = Grounds.alike(0, 2);
        for (int i = 0; i < 14; i++) {
            int height = i < n ? 3 : -3;
            x.line(i % 2, 1 - i % 2, i % 2 == 0 ? height : -height);
        }
        return x;
    }

    private static void eightShelves() {
        CreepBoard x = Grounds.alike(2, 8);
        for (int d = 0; d < 8; d++) {
            x.keep(d, 4, d);
        }
        for (int n = 0; n < 8; n++) {
            int d = n;
            due.is("29 31 each has its own", 10 * d + 2, () -> x.element(d, 0));
        }
        for (int n = 0; n < 8; n++) {
            int d = n;
            due.is("29 a mark in its place", 0, () -> x.keep(d, 1, 7 - d));
            due.is("34 the mark", 7 - d, () -> x.toss(d));
            due.refusesState("31 the row is gone", () -> x.element(d, 0));
        }
    }

    private static void rowsOfSixty() {
        for (int kind = 3; kind <= 4; kind++) {
            int what = kind;
            CreepBoard x = new CreepBoard();
            x.mark(0, 0, 0);
            for (int e = 0; e < 40; e++) {
                x.read(0, e, e, 0);
            }
            x.keep(0, what, 0);
            x.make(1, what, 60);
            for (int i = 0; i < 60; i++) {
                int n = i;
                due.is("30 nought in place " + i, 0, () -> x.element(1, n));
            }
            due.refusesState("31 no place 60", () -> x.element(1, 60));
            due.is("32 forty into it", 40, () -> x.copy(0, 0, 1, 0, 40));
            due.is("32 its last twenty", 20, () -> x.copy(1, 20, 1, 40, 20));
            due.is("31 place 39", 39, () -> x.element(1, 39));
            due.is("31 place 40", 20, () -> x.element(1, 40));
            due.is("31 place 59", 39, () -> x.element(1, 59));
            x.make(2, what, 60);
            due.is("32 all sixty", 60, () -> x.copy(1, 0, 2, 0, 60));
            due.is("31 the last of sixty", 39, () -> x.element(2, 59));
            due.is("32 all sixty onto itself", 60, () -> x.copy(2, 0, 2, 0, 60));
            due.is("32 sixty from 1 on", -13, () -> x.copy(1, 1, 2, 0, 60));
            due.is("32 sixty to 1 on", -13, () -> x.copy(1, 0, 2, 1, 60));
            due.is("32 sixty-one", -13, () -> x.copy(1, 0, 2, 0, 61));
            due.is("32 up by one, as they all were", 59, () -> x.copy(2, 0, 2, 1, 59));
            due.is("31 moved up", 38, () -> x.element(2, 59));
            due.is("31 moved up, first", 0, () -> x.element(2, 1));
            due.is("30 a row of 61", -1, () -> x.make(2, what, 61));
            due.is("30 the row of 60 stays", 38, () -> x.element(2, 59));
            x.make(2, what, 60);
            due.is("30 all noughts again", 0, () -> x.element(2, 59));
        }
    }

    private static void tenInOneBlock() {
        CreepBoard x = new CreepBoard();
        for (int k = 0; k < 10; k++) {
            x.mark(0, 100 * k - 500, 10 * k * k);
        }
        due.is("16 ten at rest", 1, () -> x.block(1023));
        due.is("17 ten at rest", 1, () -> x.blocks());
        due.is("18 ten at rest", 1023, () -> x.of(9));
        // A turning with w = 1/10.
        for (int k = 0; k < 10; k++) {
            x.velocity(k, -k * k, 10 * k - 50);
        }
        due.is("16 ten that turn", 1, () -> x.block(1023));
        due.is("17 ten that turn", 1, () -> x.blocks());
        x.velocity(9, -81, 41);
        due.is("16 one of ten doesn't", 0, () -> x.block(1023));
        due.is("16 the other nine", 1, () -> x.block(511));
        due.is("17 one of ten doesn't", 2, () -> x.blocks());
        due.is("18 the one that doesn't", 512, () -> x.of(9));
        due.is("18 the others", 511, () -> x.of(8));
    }

    private static void tenBlocks() {
        CreepBoard x = new CreepBoard();
        for (int k = 0; k < 10; k++) {
            x.mark(0, 5, 5);
            x.velocity(k, 0, k);
        }
        for (int n = 0; n < 10; n++) {
            int k = n;
            // The first question of all is of: no blocks() has been asked before it.
            due.is("18 mark " + k + " alone", 1 << k, () -> x.of(k));
        }
        due.is("17 ten", 10, () -> x.blocks());
    }

    /** All numbers at their ends at once, so that sums would leave the ints if they were kept in them. */
    private static void greatestNumbers() {
        CreepBoard x = new CreepBoard();
        x.mark(3, 0, 0);
        for (int e = 0; e < 40; e++) {
            x.read(0, e, e < 20 ? -100000 : 100000, e < 20 ? 100000 : -100000);
        }
        for (int i = 0; i < 10; i++) {
            x.step(0, 20, -10000, 10000);
        }
        due.is("7 the least", -100000, () -> x.cleared(0, 0, 0));
        due.is("7 the greatest", 200000, () -> x.cleared(0, 20, 0));
        due.is("7 the least, north", -200000, () -> x.cleared(0, 39, 1));
        due.is("9 above", 6000000, () -> x.rate(0, 0, false));
        due.is("9 below", 533, () -> x.rate(0, 0, true));
        due.is("9 above, north", -6000000, () -> x.rate(0, 1, false));
        due.is("10 in the middle", 20, () -> x.jump(0, 0));
        due.is("11 the greatest", 300000, () -> x.common(39, 0));
        due.is("11 the least", -300000, () -> x.common(39, 1));
        x.keep(0, 4, 0);
        due.is("29 the greatest", 200000, () -> x.element(0, 39));
    }

    private static void weightsAtTheirEnds() {
        CreepBoard x = Grounds.kinds();
        for (int k = 0; k < 4; k++) {
            x.keep(k, 1, k);
        }
        x.antenna(1, 0, -99);
        x.antenna(2, 39, -99);
        due.is("33 the least of a receiver", 11, () -> x.weight(1));
        due.is("33 the least of a standing one", 22, () -> x.weight(2));
        for (int n = 0; n < 160; n++) {
            x.read(n % 4, n / 4, 0, 0);
        }
        x.antenna(1, 39, 99);
        x.antenna(2, 0, 99);
        due.is("33 the greatest of a plain one", 50, () -> x.weight(0));
        due.is("33 the greatest of a receiver", 249, () -> x.weight(1));
        due.is("33 the greatest of a standing one, left out readings too", 498, () -> x.weight(2));
        due.is("33 the greatest of a buoy", 57, () -> x.weight(3));
        for (int e = 0; e < 40; e++) {
            x.gap(2, e);
        }
        due.is("33 none of its readings any more", 418, () -> x.weight(2));
    }

    /** 511 calls, and the 512th still answers as promised. */
    private static void lastOfAllCalls() {
        CreepBoard reading = new CreepBoard();
        reading.mark(0, 0, 0);
        for (int i = 0; i < 510; i++) {
            reading.read(0, i % 40, i, -i);
        }
        due.is("7 the 512th call", -509, () -> reading.cleared(0, 509 % 40, 1));
        CreepBoard lined = new CreepBoard();
        lined.mark(0, 0, 0);
        lined.mark(0, 0, 0);
        lined.line(0, 1, 2);
        for (int i = 0; i < 254; i++) {
            lined.line(1, 0, i);
            lined.unline();
        }
        due.is("27 the 512th call", 2, () -> lined.height(1));
        CreepBoard shelved = new CreepBoard();
        for (int i = 0; i < 511; i++) {
            shelved.make(i % 8, 3 + i % 2, 60);
        }
        due.is("31 the 512th call", 0, () -> shelved.element(511 % 8, 59));
        CreepBoard turning = new CreepBoard();
        turning.mark(0, 0, 0);
        turning.mark(0, 0, 1);
        turning.mark(0, 1, 0);
        for (int i = 0; i < 254; i++) {
            turning.velocity(2, 0, i);
            turning.blocks();
        }
        // Marks 0 and 1 (bits 3) and marks 0 and 2 (bits 5) would both do: the least.
        due.is("18 the 512th call", 3, () -> turning.of(0));
    }
}
