/** Promises 28 to 34: counts and shelves. */
public final class ShelvesTest {
    private static final Due due = new Due();

    public static void main(String[] args) {
        count();
        keep();
        keepRefusals();
        keptRowsStay();
        make();
        element();
        copy();
        copyOntoItself();
        copyRefusals();
        weight();
        weightRefusals();
        toss();
        tossTellsTheMarksNumber();
        due.end();
    }

    private static CreepBoard board() {
        CreepBoard x = new CreepBoard();
        for (int kind = 0; kind < 4; kind++) {
            x.mark(kind, 0, 0);
        }
        return x;
    }

    private static void count() {
        CreepBoard x = board();
        x.read(0, 0, 1, 1);
        x.read(2, 0, 1, 1);
        x.read(2, 1, 1, 1);
        x.step(0, 0, 1, 1);
        x.step(3, 0, 1, 1);
        x.line(0, 1, 1);
        x.tolerance(9);
        due.is("28 marks", 4, () -> x.count(0));
        due.is("28 readings, left out ones too", 3, () -> x.count(1));
        due.is("28 steps", 2, () -> x.count(2));
        due.is("28 lines", 1, () -> x.count(3));
        due.is("28 tolerance", 9, () -> x.count(4));
        due.is("28 above", -1, () -> x.count(5));
        due.is("28 below", -1, () -> x.count(-1));
    }

    private static void keep() {
        CreepBoard x = board();
        x.read(0, 3, 30, 0);
        x.read(0, 39, 40, 0);
        x.step(0, 39, 1, 0);
        due.is("29 ints", 0, () -> x.keep(0, 3, 0));
        due.is("29 longs", 0, () -> x.keep(7, 4, 0));
        due.is("29 first epoch", 3, () -> x.element(0, 0));
        due.is("29 last epoch", 39, () -> x.element(0, 1));
        due.is("29 first east", 30, () -> x.element(7, 0));
        due.is("29 last east, cleared", 39, () -> x.element(7, 1));
        due.refusesState("29 no more of them", () -> x.element(7, 2));
        due.is("29 a mark in place of a row", 0, () -> x.keep(0, 1, 3));
        due.is("29 it is the mark", 17, () -> x.weight(0));
        due.refusesState("29 the row is gone", () -> x.element(0, 0));
        due.is("29 nothing", 0, () -> x.keep(0, 0, 0));
        due.is("29 nothing is held", -1011, () -> x.weight(0));
        due.is("29 nothing, whatever k", 0, () -> x.keep(7, 0, -5));
        due.refusesState("29 nothing is held in 7", () -> x.element(7, 0));
        due.is("29 an empty row", 0, () -> x.keep(1, 3, 1));
        due.is("29 it is a row", 0, () -> x.copy(1, 0, 1, 0, 0));
        x.read(2, 5, 1, 1);
        x.read(2, 6, 2, 2);
        x.read(2, 7, 3, 3);
        due.is("29 of a standing one", 0, () -> x.keep(1, 3, 2));
        due.is("29 left out ones are not in it", 7, () -> x.element(1, 0));
        due.refusesState("29 one alone", () -> x.element(1, 1));
    }

    private static void keepRefusals() {
        CreepBoard x = board();
        x.keep(2, 1, 0);
        due.is("29 no shelf", -1, () -> x.keep(8, 1, 0));
        due.is("29 no shelf below", -1, () -> x.keep(-1, 0, 0));
        due.is("29 no mark", -1, () -> x.keep(2, 1, 4));
        due.is("29 no mark below", -1, () -> x.keep(2, 3, -1));
        due.is("29 no mark for longs", -1, () -> x.keep(2, 4, 4));
        due.is("29 what 2", -1, () -> x.keep(2, 2, 0));
        due.is("29 what above", -1, () -> x.keep(2, 5, 0));
        due.is("29 what below", -1, () -> x.keep(2, -1, 0));
        due.is("29 refused ones change nothing", 10, () -> x.weight(2));
    }

    private static void keptRowsStay() {
        CreepBoard x = board();
        x.read(0, 3, 30, 0);
        x.keep(0, 3, 0);
        x.keep(1, 4, 0);
        x.gap(0, 3);
        x.read(0, 5, 77, 0);
        due.is("29 epochs as they were", 3, () -> x.element(0, 0));
        due.is("29 readings as they were", 30, () -> x.element(1, 0));
        for (int e = 0; e < 40; e++) {
            x.read(0, e, e, 0);
        }
        x.keep(0, 3, 0);
        due.is("29 forty epochs", 39, () -> x.element(0, 39));
        due.refusesState("29 no forty-first", () -> x.element(0, 40));
    }

    private static void make() {
        CreepBoard x = board();
        due.is("30 ints", 0, () -> x.make(0, 3, 60));
        due.is("30 longs", 0, () -> x.make(7, 4, 1));
        due.is("30 none", 0, () -> x.make(1, 3, 0));
        due.is("30 0", 0, () -> x.element(0, 59));
        due.refusesState("30 its end", () -> x.element(0, 60));
        due.refusesState("30 no element", () -> x.element(1, 0));
        due.is("30 beyond 60", -1, () -> x.make(0, 3, 61));
        due.is("30 below 0", -14, () -> x.make(0, 3, -1));
        due.is("30 far below 0", -14, () -> x.make(0, 4, Integer.MIN_VALUE));
        due.is("30 no shelf", -1, () -> x.make(8, 3, 1));
        due.is("30 no shelf below", -1, () -> x.make(-1, 3, 1));
        due.is("30 what 1", -1, () -> x.make(0, 1, 1));
        due.is("30 what 5", -1, () -> x.make(0, 5, 1));
        due.is("30 no shelf goes first", -1, () -> x.make(8, 3, -1));
        due.is("30 no kind goes first", -1, () -> x.make(0, 2, -1));
        due.is("30 refused ones change nothing", 0, () -> x.element(0, 59));
        x.read(0, 9, 99, 0);
        x.keep(2, 4, 0);
        x.make(2, 4, 2);
        due.is("30 noughts in place of what was there", 0, () -> x.element(2, 0));
    }

    private static void element() {
        CreepBoard x = board();
        due.refusesArgument("31 no shelf", () -> x.element(8, 0));
        due.refusesArgument("31 no shelf below", () -> x.element(-1, 0));
        due.refusesState("31 nothing is held", () -> x.element(0, 0));
        x.keep(0, 1, 0);
        due.refusesState("31 no row", () -> x.element(0, 0));
        x.make(0, 4, 2);
        due.is("31 the last", 0, () -> x.element(0, 1));
        due.refusesState("31 beyond", () -> x.element(0, 2));
        due.refusesState("31 below", () -> x.element(0, -1));
        due.refusesState("31 far beyond", () -> x.element(0, Integer.MAX_VALUE));
    }

    private static void copy() {
        CreepBoard x = board();
        for (int e = 0; e < 5; e++) {
            x.read(0, e + 10, e * 100, 0);
        }
        x.keep(0, 3, 0);
        x.keep(1, 4, 0);
        x.make(2, 3, 4);
        x.make(3, 4, 60);
        due.is("32 ints", 3, () -> x.copy(0, 1, 2, 1, 3));
        due.is("32 place 0 is as it was", 0, () -> x.element(2, 0));
        due.is("32 place 1", 11, () -> x.element(2, 1));
        due.is("32 place 3", 13, () -> x.element(2, 3));
        due.is("32 the source is as it was", 11, () -> x.element(0, 1));
        due.is("32 longs to the end", 5, () -> x.copy(1, 0, 3, 55, 5));
        due.is("32 the last", 400, () -> x.element(3, 59));
        due.is("32 no elements at both ends", 0, () -> x.copy(1, 5, 3, 60, 0));
        x.keep(4, 4, 0);
        x.make(1, 4, 5);
        due.is("32 rows are their own", 400, () -> x.element(4, 4));
    }

    private static void copyOntoItself() {
        CreepBoard x = board();
        for (int e = 0; e < 5; e++) {
            x.read(0, e, 0, 0);
        }
        x.keep(0, 3, 0);
        due.is("32 upward", 4, () -> x.copy(0, 0, 0, 1, 4));
        for (int i = 0; i < 5; i++) {
            int n = i;
            due.is("32 upward, as before " + i, Math.max(0, i - 1), () -> x.element(0, n));
        }
        x.keep(0, 3, 0);
        due.is("32 downward", 4, () -> x.copy(0, 1, 0, 0, 4));
        for (int i = 0; i < 5; i++) {
            int n = i;
            due.is("32 downward, as before " + i, Math.min(4, i + 1), () -> x.element(0, n));
        }
    }

    private static void copyRefusals() {
        CreepBoard x = board();
        x.make(0, 3, 3);
        x.make(1, 4, 3);
        x.keep(2, 1, 0);
        x.make(3, 3, 2);
        due.is("32 no source", -1, () -> x.copy(8, 0, 0, 0, 0));
        due.is("32 no target", -1, () -> x.copy(0, 0, -1, 0, 0));
        due.is("32 nothing in the source", -11, () -> x.copy(5, 0, 0, 0, 0));
        due.is("32 nothing in the target", -11, () -> x.copy(0, 0, 5, 0, 0));
        due.is("32 ints to longs", -12, () -> x.copy(0, 0, 1, 0, 1));
        due.is("32 longs to ints", -12, () -> x.copy(1, 0, 0, 0, 1));
        due.is("32 a mark to a row", -12, () -> x.copy(2, 0, 0, 0, 1));
        due.is("32 a row to a mark", -12, () -> x.copy(0, 0, 2, 0, 1));
        due.is("32 a mark to itself", -12, () -> x.copy(2, 0, 2, 0, 0));
        due.is("32 n below", -13, () -> x.copy(0, 0, 3, 0, -1));
        due.is("32 i below", -13, () -> x.copy(0, -1, 3, 0, 1));
        due.is("32 j below", -13, () -> x.copy(0, 0, 3, -1, 1));
        due.is("32 beyond the source", -13, () -> x.copy(3, 1, 0, 0, 2));
        due.is("32 beyond the target", -13, () -> x.copy(0, 0, 3, 1, 2));
        due.is("32 none beyond the end", -13, () -> x.copy(0, 4, 3, 0, 0));
        due.is("32 far places", -13, () -> x.copy(0, Integer.MAX_VALUE, 3, 0, Integer.MAX_VALUE));
        due.is("32 far below", -13, () -> x.copy(0, Integer.MIN_VALUE, 3, 0, Integer.MIN_VALUE));
        due.is("32 -1 ahead of -11", -1, () -> x.copy(5, 0, 8, 0, -1));
        due.is("32 -11 ahead of -12", -11, () -> x.copy(2, 0, 5, 0, -1));
        due.is("32 -12 ahead of -13", -12, () -> x.copy(0, 0, 1, 0, -1));
    }

    private static void weight() {
        CreepBoard x = board();
        for (int k = 0; k < 4; k++) {
            x.keep(k, 1, k);
        }
        due.is("33 plain", 10, () -> x.weight(0));
        due.is("33 receiver", 110, () -> x.weight(1));
        due.is("33 standing", 220, () -> x.weight(2));
        due.is("33 buoy", 17, () -> x.weight(3));
        for (int k = 0; k < 4; k++) {
            x.read(k, 5, 1, 1);
            x.read(k, 39, 1, 1);
        }
        x.antenna(1, 39, -99);
        x.antenna(2, 0, 99);
        due.is("33 plain with two", 12, () -> x.weight(0));
        due.is("33 receiver with two", 13, () -> x.weight(1));
        due.is("33 standing with two", 422, () -> x.weight(2));
        due.is("33 buoy with two", 19, () -> x.weight(3));
        x.gap(3, 5);
        due.is("33 as they are now", 18, () -> x.weight(3));
    }

    private static void weightRefusals() {
        CreepBoard x = board();
        x.make(1, 3, 1);
        x.make(2, 4, 1);
        due.is("33 no shelf", -1001, () -> x.weight(8));
        due.is("33 no shelf below", -1001, () -> x.weight(-1));
        due.is("33 nothing", -1011, () -> x.weight(0));
        due.is("33 ints", -1012, () -> x.weight(1));
        due.is("33 longs", -1012, () -> x.weight(2));
    }

    private static void toss() {
        CreepBoard x = board();
        for (int k = 0; k < 4; k++) {
            x.keep(k, 1, k);
        }
        x.make(4, 3, 1);
        x.make(5, 4, 1);
        due.is("34 plain", -15, () -> x.toss(0));
        due.is("34 receiver", 1, () -> x.toss(1));
        due.is("34 standing", 2, () -> x.toss(2));
        due.is("34 buoy", -15, () -> x.toss(3));
        due.is("34 ints", -12, () -> x.toss(4));
        due.is("34 longs", -12, () -> x.toss(5));
        due.is("34 nothing", -11, () -> x.toss(6));
        due.is("34 no shelf", -1, () -> x.toss(8));
        due.is("34 no shelf below", -1, () -> x.toss(-1));
    }

    private static void tossTellsTheMarksNumber() {
        CreepBoard x = new CreepBoard();
        int[] kinds = {2, 1, 0, 3, 1, 2, 2, 1, 3, 2};
        for (int kind : kinds) {
            x.mark(kind, 0, 0);
        }
        for (int k = 0; k < kinds.length; k++) {
            // A shelf whose number is another than the mark's.
            int d = (k + 3) % 8;
            int number = kinds[k] == 1 || kinds[k] == 2 ? k : -15;
            x.keep(d, 1, k);
            due.is("34 mark " + k + " of kind " + kinds[k] + " on shelf " + d, number, () -> x.toss(d));
            due.is("34 mark " + k + " tossed again", number, () -> x.toss(d));
        }
        x.keep(0, 1, 9);
        x.keep(1, 1, 9);
        due.is("34 one mark on two shelves", 9, () -> x.toss(0));
        due.is("34 the other shelf", 9, () -> x.toss(1));
        x.keep(0, 1, 0);
        due.is("34 mark 0, standing", 0, () -> x.toss(0));

        CreepBoard first = new CreepBoard();
        first.mark(1, 0, 0);
        first.keep(7, 1, 0);
        due.is("34 mark 0, a receiver", 0, () -> first.toss(7));
        first.antenna(0, 0, 9);
        first.read(0, 0, 1, 1);
        due.is("34 whatever is told of it", 0, () -> first.toss(7));
        due.is("34 a toss changes nothing", 120, () -> first.weight(7));
    }
}
