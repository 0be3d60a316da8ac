import java.util.List;

/**
 * Every refusal, on boards with some of everything and on full ones: its number or exception, the first of several
 * where more than one would do, and that no later answer is another than without the refused call.
 */
public final class RefusalsTest {
    private static final Due due = new Due();

    private final Later.Maker maker;
    private final List<String> without;

    private RefusalsTest(Later.Maker maker) {
        this.maker = maker;
        this.without = Later.answers(maker, x -> 0);
    }

    public static void main(String[] args) {
        onSome(new RefusalsTest(Grounds::some));
        onFull(new RefusalsTest(Grounds::full));
        onNew(new RefusalsTest(CreepBoard::new));
        questionsChangeNothing(new RefusalsTest(Grounds::some));
        questionsChangeNothing(new RefusalsTest(Grounds::full));
        due.end();
    }

    private void is(String what, String want, Due.BoardCall call) {
        CreepBoard x = maker.make();
        due.compare(what, want, Due.outcome(() -> call.answer(x)));
        due.compare(what + ", again", want, Due.outcome(() -> call.answer(x)));
        changesNothing(what, call);
    }

    private void is(String what, int want, Due.BoardCall call) {
        is(what, Integer.toString(want), call);
    }

    private void changesNothing(String what, Due.BoardCall call) {
        List<String> with = Later.answers(maker, call);
        for (int part = 0; part < with.size(); part++) {
            due.compare(what + " changes nothing", "nothing", unlike(without.get(part), with.get(part)));
        }
    }

    private static String unlike(String before, String after) {
        String[] a = before.split("\n");
        String[] b = after.split("\n");
        for (int i = 0; i < a.length && i < b.length; i++) {
            if (!a[i].equals(b[i])) {
                return a[i] + " became " + b[i];
            }
        }
        return a.length == b.length ? "nothing" : "how many answers";
    }

    private static void onSome(RefusalsTest t) {
        someMarks(t);
        someReadings(t);
        someMotion(t);
        someCuts(t);
        someLevels(t);
        someKeeping(t);
        someCopies(t);
        someMarksOnShelves(t);
    }

    private static void someMarks(RefusalsTest t) {
        t.is("2 kind below", -1, x -> x.mark(-1, 0, 0));
        t.is("2 kind above", -1, x -> x.mark(4, 0, 0));
        t.is("2 x below", -1, x -> x.mark(0, -1001, 0));
        t.is("2 x above", -1, x -> x.mark(1, 1001, 0));
        t.is("2 y below", -1, x -> x.mark(2, 0, -1001));
        t.is("2 y above", -1, x -> x.mark(3, 0, 1001));
        t.is("3 no mark", -1001, x -> x.antenna(5, 0, 1));
        t.is("3 epoch below", -1001, x -> x.antenna(3, -1, 1));
        t.is("3 epoch above", -1001, x -> x.antenna(2, 40, 1));
        t.is("3 offset below", -1001, x -> x.antenna(3, 0, -100));
        t.is("3 offset above", -1001, x -> x.antenna(2, 0, 100));
        t.is("3 a plain one", -1003, x -> x.antenna(1, 0, 1));
        t.is("3 a buoy", -1003, x -> x.antenna(0, 0, 1));
        t.is("3 -1001 ahead of -1003, epoch below", -1001, x -> x.antenna(1, -1, 1));
        t.is("3 -1001 ahead of -1003, epoch above", -1001, x -> x.antenna(0, 40, 1));
        t.is("3 -1001 ahead of -1003, offset below", -1001, x -> x.antenna(1, 0, -100));
        t.is("3 -1001 ahead of -1003, offset above", -1001, x -> x.antenna(0, 0, 100));
    }

    private static void someReadings(RefusalsTest t) {
        t.is("4 no mark", -1, x -> x.read(5, 1, 1, 1));
        t.is("4 epoch below", -1, x -> x.read(0, -1, 1, 1));
        t.is("4 epoch above", -1, x -> x.read(0, 40, 1, 1));
        t.is("4 east below, north as may be", -1, x -> x.read(0, 0, -100001, 77));
        t.is("4 east above, in a gap", -1, x -> x.read(0, 1, 100001, 77));
        t.is("4 north below, east as may be", -1, x -> x.read(0, 0, 77, -100001));
        t.is("4 north above, in a gap", -1, x -> x.read(0, 1, 77, 100001));
        t.is("5 no mark", -1, x -> x.gap(5, 0));
        t.is("5 epoch below", -1, x -> x.gap(0, -1));
        t.is("5 epoch above", -1, x -> x.gap(4, 40));
        t.is("6 no mark", -1, x -> x.step(5, 0, 1, 1));
        t.is("6 epoch below", -1, x -> x.step(1, -1, 1, 1));
        t.is("6 epoch above", -1, x -> x.step(1, 40, 1, 1));
        t.is("6 east below", -1, x -> x.step(1, 0, -10001, 7));
        t.is("6 east above", -1, x -> x.step(1, 0, 10001, 7));
        t.is("6 north below", -1, x -> x.step(1, 0, 7, -10001));
        t.is("6 north above", -1, x -> x.step(1, 0, 7, 10001));
        t.is("7 no mark", Due.ARGUMENT, x -> x.cleared(5, 0, 0));
        t.is("7 a gap", Due.STATE, x -> x.cleared(0, 1, 0));
        t.is("7 left out", Due.STATE, x -> x.cleared(2, 7, 0));
        t.is("7 argument ahead of state, side below", Due.ARGUMENT, x -> x.cleared(0, 1, -1));
        t.is("7 argument ahead of state, side above", Due.ARGUMENT, x -> x.cleared(2, 7, 2));
        t.is("8 no mark", -1, x -> x.many(5));
        t.is("9 no mark", Due.ARGUMENT, x -> x.rate(5, 0, false));
        t.is("9 no side", Due.ARGUMENT, x -> x.rate(0, 2, true));
        t.is("10 no mark", -1, x -> x.jump(5, 0));
        t.is("10 no side", -1, x -> x.jump(0, 2));
        t.is("11 no epoch", Due.ARGUMENT, x -> x.common(40, 0));
        t.is("11 no side", Due.ARGUMENT, x -> x.common(0, 2));
    }

    private static void someMotion(RefusalsTest t) {
        t.is("12 no mark", -1, x -> x.velocity(5, 1, 1));
        t.is("12 east below, north as may be", -1, x -> x.velocity(1, -1001, 9));
        t.is("12 east above", -1, x -> x.velocity(1, 1001, 9));
        t.is("12 north below, east as may be", -1, x -> x.velocity(1, 9, -1001));
        t.is("12 north above", -1, x -> x.velocity(1, 9, 1001));
        t.is("13 no mark", Due.ARGUMENT, x -> x.moves(5, 0));
        t.is("13 no side", Due.ARGUMENT, x -> x.moves(0, 2));
        t.is("14 a below", -1, x -> x.frame(-1001, 1, 1));
        t.is("14 a above", -1, x -> x.frame(1001, 1, 1));
        t.is("14 b below", -1, x -> x.frame(1, -1001, 1));
        t.is("14 b above", -1, x -> x.frame(1, 1001, 1));
        t.is("14 w below", -1, x -> x.frame(1, 1, -10));
        t.is("14 w above", -1, x -> x.frame(1, 1, 10));
        t.is("15 no mark", Due.ARGUMENT, x -> x.strain(0, 1, 5, 0, false));
        t.is("15 no part", Due.ARGUMENT, x -> x.strain(0, 1, 2, 4, false));
        t.is("15 one mark twice", Due.STATE, x -> x.strain(0, 1, 0, 0, false));
        t.is("15 one mark thrice", Due.STATE, x -> x.strain(3, 3, 3, 0, true));
        t.is("15 argument ahead of state, part below", Due.ARGUMENT, x -> x.strain(1, 1, 2, -1, false));
        t.is("15 argument ahead of state, part above", Due.ARGUMENT, x -> x.strain(0, 2, 2, 4, true));
        t.is("15 argument ahead of state, a mark", Due.ARGUMENT, x -> x.strain(5, 5, 5, 0, true));
        t.is("16 the empty set", -1, x -> x.block(0));
        t.is("16 no mark 5", -1, x -> x.block(32));
        t.is("16 below 0", -1, x -> x.block(-1));
        t.is("18 no mark", -1, x -> x.of(5));
    }

    private static void someCuts(RefusalsTest t) {
        t.is("19 no mark", -1001, x -> x.green(5, 0, 1));
        t.is("19 cut below", -1001, x -> x.green(0, -1, 5));
        t.is("19 cut above", -1001, x -> x.green(0, 3, 5));
        t.is("19 green below", -1001, x -> x.green(0, 0, -21));
        t.is("19 green above", -1001, x -> x.green(0, 0, 21));
        t.is("20 below", -1, x -> x.tolerance(-1));
        t.is("20 above", -1, x -> x.tolerance(101));
        t.is("22 cut below", -1, x -> x.slip(-1, false));
        t.is("22 cut above", -1, x -> x.slip(3, true));
    }

    private static void someLevels(RefusalsTest t) {
        t.is("24 no from", -1, x -> x.line(5, 0, 1));
        t.is("24 no to", -1, x -> x.line(0, 5, 1));
        t.is("24 to itself", -1, x -> x.line(1, 1, 1));
        t.is("24 rise below", -1, x -> x.line(0, 1, -10001));
        t.is("24 rise above", -1, x -> x.line(0, 1, 10001));
        t.is("26 what below", -1, x -> x.wrong(-1));
        t.is("26 what above", -1, x -> x.wrong(2));
        t.is("27 no mark", Due.ARGUMENT, x -> x.height(5));
        t.is("27 none leads there", Due.STATE, x -> x.height(4));
        t.is("28 what below", -1, x -> x.count(-1));
        t.is("28 what above", -1, x -> x.count(5));
    }

    private static void someKeeping(RefusalsTest t) {
        for (int what : new int[] {0, 1, 3, 4}) {
            t.is("29 shelf below, what " + what, -1, x -> x.keep(-1, what, 0));
            t.is("29 shelf above, what " + what, -1, x -> x.keep(8, what, 0));
        }
        // Each shelf holds something else.
        for (int d = 0; d < 8; d++) {
            int shelf = d;
            for (int what : new int[] {1, 3, 4}) {
                t.is("29 mark below to shelf " + d + ", what " + what, -1, x -> x.keep(shelf, what, -1));
                t.is("29 mark above to shelf " + d + ", what " + what, -1, x -> x.keep(shelf, what, 5));
            }
            for (int what : new int[] {-1, 2, 5}) {
                t.is("29 no such what to shelf " + d + ", what " + what, -1, x -> x.keep(shelf, what, 0));
            }
            for (int what = 3; what <= 4; what++) {
                int kind = what;
                t.is("30 a row of 61 to shelf " + d, -1, x -> x.make(shelf, kind, 61));
                t.is("30 a row of -1 to shelf " + d, -14, x -> x.make(shelf, kind, -1));
            }
            for (int what : new int[] {-1, 0, 1, 2, 5}) {
                t.is("30 no such what to shelf " + d + ", what " + what, -1, x -> x.make(shelf, what, 2));
                t.is("30 -1 ahead of -14, what " + what, -1, x -> x.make(shelf, what, -1));
            }
        }
        t.is("30 shelf below", -1, x -> x.make(-1, 3, 2));
        t.is("30 shelf above", -1, x -> x.make(8, 3, 2));
        t.is("30 -1 ahead of -14, shelf below", -1, x -> x.make(-1, 3, -1));
        t.is("30 -1 ahead of -14, shelf above", -1, x -> x.make(8, 4, -1));
        t.is("31 shelf below", Due.ARGUMENT, x -> x.element(-1, 0));
        t.is("31 shelf above", Due.ARGUMENT, x -> x.element(8, 0));
        t.is("31 argument ahead of state", Due.ARGUMENT, x -> x.element(8, -1));
        t.is("31 nothing", Due.STATE, x -> x.element(5, 0));
        t.is("31 a mark", Due.STATE, x -> x.element(0, 0));
        t.is("31 place below", Due.STATE, x -> x.element(3, -1));
        t.is("31 place above", Due.STATE, x -> x.element(3, 4));
        t.is("31 an empty row", Due.STATE, x -> x.element(7, 0));
    }

    private static void someCopies(RefusalsTest t) {
        t.is("32 source below", -1, x -> x.copy(-1, 0, 3, 0, 1));
        t.is("32 source above", -1, x -> x.copy(8, 0, 3, 0, 1));
        t.is("32 target below", -1, x -> x.copy(1, 0, -1, 0, 1));
        t.is("32 target above", -1, x -> x.copy(1, 0, 8, 0, 1));
        t.is("32 -1 ahead of -11, source", -1, x -> x.copy(8, 0, 5, 0, 1));
        t.is("32 -1 ahead of -11, target", -1, x -> x.copy(5, 0, 8, 0, 1));
        t.is("32 -1 ahead of -12, source", -1, x -> x.copy(-1, 0, 0, 0, 1));
        t.is("32 -1 ahead of -12, target", -1, x -> x.copy(0, 0, -1, 0, 1));
        t.is("32 -1 ahead of -13, source", -1, x -> x.copy(8, -1, 3, -1, -1));
        t.is("32 -1 ahead of -13, target", -1, x -> x.copy(3, -1, 8, -1, -1));
        t.is("32 nothing in the source", -11, x -> x.copy(5, 0, 3, 0, 1));
        t.is("32 nothing in the target", -11, x -> x.copy(1, 0, 5, 0, 1));
        t.is("32 nothing in either", -11, x -> x.copy(5, 0, 5, 0, 0));
        t.is("32 -11 ahead of -12, a mark as the source", -11, x -> x.copy(0, 0, 5, 0, 1));
        t.is("32 -11 ahead of -12, a mark as the target", -11, x -> x.copy(5, 0, 6, 0, 1));
        t.is("32 -11 ahead of -13, source", -11, x -> x.copy(5, -1, 3, -1, -1));
        t.is("32 -11 ahead of -13, target", -11, x -> x.copy(3, -1, 5, -1, -1));
        t.is("32 a mark as the source", -12, x -> x.copy(0, 0, 3, 0, 1));
        t.is("32 a mark as the target", -12, x -> x.copy(1, 0, 0, 0, 1));
        t.is("32 a mark to another", -12, x -> x.copy(0, 0, 6, 0, 0));
        t.is("32 ints to longs", -12, x -> x.copy(1, 0, 4, 0, 1));
        t.is("32 longs to ints", -12, x -> x.copy(2, 0, 3, 0, 1));
        t.is("32 none of ints to longs", -12, x -> x.copy(1, 0, 4, 0, 0));
        t.is("32 -12 ahead of -13, a mark", -12, x -> x.copy(0, -1, 3, -1, -1));
        t.is("32 -12 ahead of -13, to a mark", -12, x -> x.copy(3, -1, 0, -1, -1));
        t.is("32 -12 ahead of -13, ints to longs", -12, x -> x.copy(3, 99, 4, 99, 99));
        t.is("32 n below", -13, x -> x.copy(1, 0, 3, 0, -1));
        t.is("32 i below", -13, x -> x.copy(1, -1, 3, 0, 1));
        t.is("32 j below", -13, x -> x.copy(1, 0, 3, -1, 1));
        t.is("32 beyond the source", -13, x -> x.copy(3, 2, 1, 0, 3));
        t.is("32 beyond the target", -13, x -> x.copy(1, 0, 3, 1, 4));
        t.is("32 beyond its own end", -13, x -> x.copy(3, 0, 3, 1, 4));
        t.is("32 beyond the target, longs", -13, x -> x.copy(2, 0, 4, 2, 8));
        t.is("32 into an empty row", -13, x -> x.copy(1, 0, 7, 0, 1));
        t.is("32 out of an empty row", -13, x -> x.copy(7, 0, 1, 0, 1));
    }

    private static void someMarksOnShelves(RefusalsTest t) {
        t.is("33 shelf below", -1001, x -> x.weight(-1));
        t.is("33 shelf above", -1001, x -> x.weight(8));
        t.is("33 nothing", -1011, x -> x.weight(5));
        t.is("33 ints", -1012, x -> x.weight(1));
        t.is("33 longs", -1012, x -> x.weight(2));
        t.is("33 an empty row", -1012, x -> x.weight(7));
        t.is("34 shelf below", -1, x -> x.toss(-1));
        t.is("34 shelf above", -1, x -> x.toss(8));
        t.is("34 nothing", -11, x -> x.toss(5));
        t.is("34 ints", -12, x -> x.toss(1));
        t.is("34 longs", -12, x -> x.toss(2));
        t.is("34 an empty row", -12, x -> x.toss(7));
        t.is("34 a plain one", -15, x -> x.toss(6));
    }

    private static void onFull(RefusalsTest t) {
        for (int kind = 0; kind < 4; kind++) {
            int k = kind;
            t.is("2 an eleventh of kind " + k, -2, x -> x.mark(k, 1, 1));
        }
        t.is("2 -1 ahead of -2, kind below", -1, x -> x.mark(-1, 0, 0));
        t.is("2 -1 ahead of -2, kind above", -1, x -> x.mark(4, 0, 0));
        t.is("2 -1 ahead of -2, x below", -1, x -> x.mark(0, -1001, 0));
        t.is("2 -1 ahead of -2, x above", -1, x -> x.mark(0, 1001, 0));
        t.is("2 -1 ahead of -2, y below", -1, x -> x.mark(0, 0, -1001));
        t.is("2 -1 ahead of -2, y above", -1, x -> x.mark(0, 0, 1001));
        t.is("6 an eleventh", -2, x -> x.step(0, 0, 1, 1));
        t.is("6 an eleventh of the last mark", -2, x -> x.step(9, 39, 1, 1));
        t.is("6 -1 ahead of -2, mark", -1, x -> x.step(10, 0, 1, 1));
        t.is("6 -1 ahead of -2, epoch below", -1, x -> x.step(0, -1, 1, 1));
        t.is("6 -1 ahead of -2, epoch above", -1, x -> x.step(0, 40, 1, 1));
        t.is("6 -1 ahead of -2, east below", -1, x -> x.step(0, 0, -10001, 1));
        t.is("6 -1 ahead of -2, east above", -1, x -> x.step(0, 0, 10001, 1));
        t.is("6 -1 ahead of -2, north below", -1, x -> x.step(0, 0, 1, -10001));
        t.is("6 -1 ahead of -2, north above", -1, x -> x.step(0, 0, 1, 10001));
        fullFrames(t);
        fullLines(t);
        t.is("21 22 none fit, least", -4, x -> x.slip(0, false));
        t.is("21 22 none fit, greatest", -4, x -> x.slip(2, true));
        t.is("22 -1 ahead of -4, below", -1, x -> x.slip(-1, false));
        t.is("22 -1 ahead of -4, above", -1, x -> x.slip(3, true));
        t.is("23 none fit", -4, x -> x.locked());
        t.is("32 beyond the end of sixty", -13, x -> x.copy(1, 56, 0, 57, 4));
        t.is("32 sixty-one", -13, x -> x.copy(1, 0, 0, 0, 61));
        t.is("34 a buoy", -15, x -> x.toss(6));
    }

    private static void fullFrames(RefusalsTest t) {
        // Mark 9, the last, would be beyond; marks 0 to 8 would not.
        t.is("14 beyond, east", -2, x -> x.frame(1, 0, 0));
        t.is("14 beyond, north", -2, x -> x.frame(0, 1, 0));
        t.is("14 beyond by turning", -2, x -> x.frame(0, 0, 1));
        t.is("14 beyond, east, while north comes back", -2, x -> x.frame(1, -1, 0));
        t.is("14 -1 ahead of -2, a", -1, x -> x.frame(1001, 0, 0));
        t.is("14 -1 ahead of -2, b", -1, x -> x.frame(1, 1001, 0));
        t.is("14 -1 ahead of -2, w below", -1, x -> x.frame(1, 1, -10));
        t.is("14 -1 ahead of -2, w above", -1, x -> x.frame(1, 1, 10));
    }

    private static void fullLines(RefusalsTest t) {
        t.is("24 a fifteenth", -2, x -> x.line(0, 1, 1));
        t.is("24 -1 ahead of -2, from below", -1, x -> x.line(-1, 1, 1));
        t.is("24 -1 ahead of -2, from above", -1, x -> x.line(10, 1, 1));
        t.is("24 -1 ahead of -2, to below", -1, x -> x.line(0, -1, 1));
        t.is("24 -1 ahead of -2, to above", -1, x -> x.line(0, 10, 1));
        t.is("24 -1 ahead of -2, to itself", -1, x -> x.line(3, 3, 1));
        t.is("24 -1 ahead of -2, rise below", -1, x -> x.line(0, 1, -10001));
        t.is("24 -1 ahead of -2, rise above", -1, x -> x.line(0, 1, 10001));
    }

    private static void onNew(RefusalsTest t) {
        t.is("3 no mark", -1001, x -> x.antenna(0, 0, 1));
        t.is("4 no mark", -1, x -> x.read(0, 0, 1, 1));
        t.is("5 no mark", -1, x -> x.gap(0, 0));
        t.is("6 no mark", -1, x -> x.step(0, 0, 1, 1));
        t.is("9 no mark", Due.ARGUMENT, x -> x.rate(0, 0, false));
        t.is("10 no mark, where there is no jump either", -1, x -> x.jump(0, 0));
        t.is("11 no mark has a reading", Due.STATE, x -> x.common(0, 0));
        t.is("11 argument ahead of state, epoch below", Due.ARGUMENT, x -> x.common(-1, 0));
        t.is("11 argument ahead of state, epoch above", Due.ARGUMENT, x -> x.common(40, 0));
        t.is("11 argument ahead of state, side below", Due.ARGUMENT, x -> x.common(0, -1));
        t.is("11 argument ahead of state, side above", Due.ARGUMENT, x -> x.common(0, 2));
        t.is("12 no mark", -1, x -> x.velocity(0, 1, 1));
        t.is("16 no mark", -1, x -> x.block(1));
        t.is("17 no mark", -3, x -> x.blocks());
        t.is("18 no mark", -1, x -> x.of(0));
        t.is("19 no mark", -1001, x -> x.green(0, 0, 1));
        t.is("24 no mark", -1, x -> x.line(0, 1, 1));
        t.is("25 no line", -3, x -> x.unline());
        t.is("27 no mark", Due.ARGUMENT, x -> x.height(0));
        t.is("29 no mark", -1, x -> x.keep(0, 1, 0));
        RefusalsTest bare = new RefusalsTest(Grounds::kinds);
        for (int kind = 0; kind < 4; kind++) {
            int k = kind;
            bare.is("9 too few readings", Due.STATE, x -> x.rate(k, 0, false));
            bare.is("9 argument ahead of state, side below", Due.ARGUMENT, x -> x.rate(k, -1, false));
            bare.is("9 argument ahead of state, side above", Due.ARGUMENT, x -> x.rate(k, 2, true));
            bare.is("10 no jump", -4, x -> x.jump(k, 0));
            bare.is("10 -1 ahead of -4, side below", -1, x -> x.jump(k, -1));
            bare.is("10 -1 ahead of -4, side above", -1, x -> x.jump(k, 2));
            bare.is("7 argument ahead of state, epoch", Due.ARGUMENT, x -> x.cleared(k, 40, 0));
        }
    }

    /** Calls that only ask answer the same again, and leave all other answers as they were. */
    private static void questionsChangeNothing(RefusalsTest t) {
        t.changesNothing("7", x -> x.cleared(1, 16, 1));
        t.changesNothing("8", x -> x.many(2));
        t.changesNothing("9", x -> x.rate(1, 1, false));
        t.changesNothing("10", x -> x.jump(1, 1));
        t.changesNothing("11", x -> x.common(15, 1));
        t.changesNothing("13", x -> x.moves(3, 1));
        t.changesNothing("15", x -> x.strain(2, 0, 1, 3, true));
        t.changesNothing("16", x -> x.block(6));
        t.changesNothing("17", x -> x.blocks());
        t.changesNothing("18", x -> x.of(3));
        t.changesNothing("21", x -> x.fits());
        t.changesNothing("22", x -> x.slip(1, true));
        t.changesNothing("23", x -> x.locked());
        t.changesNothing("26", x -> x.wrong(1));
        t.changesNothing("27", x -> x.height(2));
        t.changesNothing("28", x -> x.count(1));
        t.changesNothing("31", x -> x.element(3, 1));
        for (int shelf = 0; shelf < 8; shelf++) {
            int d = shelf;
            t.changesNothing("33 on " + d, x -> x.weight(d));
            t.changesNothing("34 on " + d, x -> x.toss(d));
        }
    }
}
