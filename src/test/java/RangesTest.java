/** The last number that is still taken and the first that is not, at both ends, of every number that calls are told. */
public final class RangesTest {
    private static final Due due = new Due();

    private interface MarkCall {
        long answer(CreepBoard x, int k);
    }

    public static void main(String[] args) {
        marksOfCalls();
        marksOfQuestions();
        marksOfPairsAndTriangles();
        placesAndKinds();
        offsets();
        epochs();
        readings();
        steps();
        sides();
        velocities();
        frames();
        framedVelocities();
        parts();
        sets();
        greens();
        tolerances();
        slips();
        unlikeByTolerance();
        rises();
        whats();
        shelves();
        rows();
        due.end();
    }

    /** A mark's number: 0 to the last that there is, of one mark and of ten. */
    private static void marks(String what, long atFirst, long atLast, String refusal, MarkCall call) {
        due.range(what + " of one", 0, atFirst, 0, atFirst, refusal, k -> call.answer(Grounds.alike(1, 1), k));
        due.range(what + " of ten", 0, atFirst, 9, atLast, refusal, k -> call.answer(Grounds.alike(1, 10), k));
    }

    private static void marksOfCalls() {
        marks("3 antenna: mark", 0, 0, "-1001", (x, k) -> x.antenna(k, 0, 1));
        marks("4 read: mark", 1, 1, "-1", (x, k) -> x.read(k, 4, 0, 0));
        marks("5 gap: mark", 1, 1, "-1", (x, k) -> x.gap(k, 3));
        marks("6 step: mark", 1, 1, "-1", (x, k) -> x.step(k, 0, 0, 0));
        marks("12 velocity: mark", 1, 1, "-1", (x, k) -> x.velocity(k, 0, 0));
        marks("19 green: mark", 0, 0, "-1001", (x, k) -> x.green(k, 0, 1));
        marks("29 keep a mark: mark", 0, 0, "-1", (x, k) -> x.keep(0, 1, k));
        marks("29 keep ints: mark", 0, 0, "-1", (x, k) -> x.keep(0, 3, k));
        marks("29 keep longs: mark", 0, 0, "-1", (x, k) -> x.keep(0, 4, k));
    }

    private static void marksOfQuestions() {
        marks("7 cleared: mark", 0, 90, Due.ARGUMENT, (x, k) -> x.cleared(k, 0, 0));
        marks("8 many: mark", 4, 4, "-1", (x, k) -> x.many(k));
        marks("9 rate: mark", 1, 1, Due.ARGUMENT, (x, k) -> x.rate(k, 0, false));
        marks("10 jump: mark", 2, 2, "-1", (x, k) -> x.jump(k, 0));
        marks("13 moves: mark", 1, 10, Due.ARGUMENT, (x, k) -> x.moves(k, 0));
        due.range("18 of: mark of one", 0, 1, 0, 1, "-1", k -> Grounds.alike(0, 1).of(k));
        due.range("18 of: mark of ten", 0, 1, 9, 512, "-1", k -> apart(10).of(k));
        due.range("27 height: mark of one", 0, 0, 0, 0, Due.ARGUMENT, k -> Grounds.alike(0, 1).height(k));
        due.range("27 height: mark of ten", 0, 0, 9, 7, Due.ARGUMENT, k -> {
            CreepBoard x = Grounds.alike(0, 10);
            x.line(0, 9, 7);
            return x.height(k);
        });
    }

    /** Marks on one place of which no two move alike. */
    private static CreepBoard apart(int marks) {
        CreepBoard x = new CreepBoard();
        for (int k = 0; k < marks; k++) {
            x.mark(0, 0, 0);
            x.velocity(k, k, 0);
        }
        return x;
    }

    private static void marksOfPairsAndTriangles() {
        due.range("24 line: from, two marks", 0, 0, 0, 0, "-1", k -> Grounds.alike(0, 2).line(k, 1, 0));
        due.range("24 line: to, two marks", 1, 0, 1, 0, "-1", k -> Grounds.alike(0, 2).line(0, k, 0));
        due.range("24 line: from, ten marks", 0, 0, 9, 0, "-1", k -> Grounds.alike(0, 10).line(k, 5, 0));
        due.range("24 line: to, ten marks", 0, 0, 9, 0, "-1", k -> Grounds.alike(0, 10).line(5, k, 0));
        due.is("24 line: to itself", -1, () -> Grounds.alike(0, 10).line(5, 5, 0));
        // All velocities are (k + 1, -k - 1) on places (k, k k): EE is 1 by 1 whichever three it is.
        due.range("15 strain: first", 0, 1, 9, 1, Due.ARGUMENT, k -> Grounds.alike(0, 10).strain(k, 4, 5, 0, false));
        due.range("15 strain: second", 0, 1, 9, 1, Due.ARGUMENT, k -> Grounds.alike(0, 10).strain(4, k, 5, 0, false));
        due.range("15 strain: third", 0, 1, 9, 1, Due.ARGUMENT, k -> Grounds.alike(0, 10).strain(4, 5, k, 0, false));
        due.is("15 strain: the last of three", 1, () -> Grounds.alike(0, 3).strain(0, 1, 2, 0, false));
        due.refusesArgument("15 strain: a fourth of three", () -> Grounds.alike(0, 3).strain(0, 1, 3, 0, false));
    }

    private static void placesAndKinds() {
        due.range("2 kind", 0, 0, 3, 0, "-1", n -> new CreepBoard().mark(n, 0, 0));
        due.range("2 place x", -1000, 0, 1000, 0, "-1", n -> new CreepBoard().mark(0, n, 0));
        due.range("2 place y", -1000, 0, 1000, 0, "-1", n -> new CreepBoard().mark(0, 0, n));
        // Told by the turning of a frame: north less x, east and y more.
        due.range("2 place x stands", -1000, 1000, 1000, -1000, Due.ARGUMENT, n -> turned(n, 0).moves(0, 1));
        due.range("2 place y stands", -1000, -1000, 1000, 1000, Due.ARGUMENT, n -> turned(0, n).moves(0, 0));
    }

    private static CreepBoard turned(int px, int py) {
        CreepBoard x = new CreepBoard();
        x.mark(0, px, py);
        x.frame(0, 0, 1);
        return x;
    }

    private static void offsets() {
        for (int kind = 1; kind <= 2; kind++) {
            int which = kind;
            due.range("3 offset, kind " + kind, -99, 0, 99, 0, "-1001", n -> Grounds.alike(which, 1).antenna(0, 0, n));
            due.range("3 offset stands, kind " + kind, -99, -99, 99, 99, "0", n -> {
                CreepBoard x = Grounds.alike(which, 1);
                x.antenna(0, 0, n);
                return x.antenna(0, 0, 0);
            });
            due.range("7 less the offset, kind " + kind, -99, 102, 99, -96, "3", n -> {
                CreepBoard x = Grounds.alike(which, 1);
                x.antenna(0, 0, n);
                return x.cleared(0, 3, 0);
            });
        }
    }

    private static void epochs() {
        due.range("3 antenna: epoch", 0, 0, 39, 0, "-1001", n -> Grounds.alike(1, 1).antenna(0, n, 1));
        due.range("4 read: epoch", 0, 0, 39, 1, "-1", n -> Grounds.alike(1, 1).read(0, n, 1, 1));
        due.range("5 gap: epoch", 0, 1, 39, 0, "-1", n -> Grounds.alike(1, 1).gap(0, n));
        due.range("6 step: epoch", 0, 1, 39, 1, "-1", n -> Grounds.alike(1, 1).step(0, n, 1, 1));
        due.range("7 cleared: epoch", 0, 5, 39, 5, Due.ARGUMENT, n -> always(5).cleared(0, n, 0));
        due.range("11 common: epoch", 0, 0, 39, 0, Due.ARGUMENT, n -> always(5).common(n, 0));
        for (int e = 0; e < 40; e += 13) {
            int from = e;
            due.is("3 7 antenna from epoch " + e + " on", -2, () -> antennaFrom(from).cleared(0, from, 0));
            due.is("3 7 antenna to the end", -2, () -> antennaFrom(from).cleared(0, 39, 0));
            due.is("6 7 step from epoch " + e + " on", -2, () -> stepFrom(from).cleared(0, from, 0));
            due.is("6 7 step to the end", -2, () -> stepFrom(from).cleared(0, 39, 0));
            if (e > 0) {
                due.is("3 7 0 ahead of the antenna's epoch " + e, 5, () -> antennaFrom(from).cleared(0, from - 1, 0));
                due.is("6 7 none ahead of the step's epoch " + e, 5, () -> stepFrom(from).cleared(0, from - 1, 0));
            }
        }
    }

    /** A receiver that reads the same in every epoch. */
    private static CreepBoard always(int z) {
        CreepBoard x = new CreepBoard();
        x.mark(1, 0, 0);
        for (int e = 0; e < 40; e++) {
            x.read(0, e, z, z);
        }
        return x;
    }

    private static CreepBoard antennaFrom(int epoch) {
        CreepBoard x = always(5);
        x.antenna(0, epoch, 7);
        return x;
    }

    private static CreepBoard stepFrom(int epoch) {
        CreepBoard x = always(5);
        x.step(0, epoch, 7, 0);
        return x;
    }

    private static void readings() {
        due.range("4 east", -100000, 1, 100000, 1, "-1", n -> Grounds.alike(0, 1).read(0, 9, n, 0));
        due.range("4 north", -100000, 1, 100000, 1, "-1", n -> Grounds.alike(0, 1).read(0, 9, 0, n));
        due.range("4 east stands", -100000, -100000, 100000, 100000, Due.STATE, n -> {
            CreepBoard x = Grounds.alike(0, 1);
            x.read(0, 9, n, 0);
            return x.cleared(0, 9, 0);
        });
        due.range("4 north stands", -100000, -100000, 100000, 100000, Due.STATE, n -> {
            CreepBoard x = Grounds.alike(0, 1);
            x.read(0, 9, 0, n);
            return x.cleared(0, 9, 1);
        });
    }

    private static void steps() {
        due.range("6 east", -10000, 1, 10000, 1, "-1", n -> Grounds.alike(0, 1).step(0, 0, n, 0));
        due.range("6 north", -10000, 1, 10000, 1, "-1", n -> Grounds.alike(0, 1).step(0, 0, 0, n));
        due.range("6 7 less east", -10000, 10000, 10000, -10000, "0", n -> {
            CreepBoard x = Grounds.alike(0, 1);
            x.step(0, 0, n, 0);
            return x.cleared(0, 0, 0);
        });
        due.range("6 7 less north", -10000, 10000, 10000, -10000, "0", n -> {
            CreepBoard x = Grounds.alike(0, 1);
            x.step(0, 0, 0, n);
            return x.cleared(0, 0, 1);
        });
    }

    private static void sides() {
        due.range("7 cleared: side", 0, 12, 1, 8, Due.ARGUMENT, n -> Grounds.alike(0, 2).cleared(1, 2, n));
        due.range("9 rate: side", 0, 1, 1, -1, Due.ARGUMENT, n -> Grounds.alike(0, 2).rate(1, n, false));
        due.range("9 rate below: side", 0, 1, 1, 1, Due.ARGUMENT, n -> Grounds.alike(0, 2).rate(1, n, true));
        due.range("10 jump: side", 0, 2, 1, 2, "-1", n -> Grounds.alike(0, 2).jump(1, n));
        due.range("11 common: side", 0, 3, 1, -3, Due.ARGUMENT, n -> Grounds.alike(0, 2).common(3, n));
        due.range("13 moves: side", 0, 2, 1, -2, Due.ARGUMENT, n -> Grounds.alike(0, 2).moves(1, n));
    }

    private static void velocities() {
        due.range("12 east", -1000, 1, 1000, 1, "-1", n -> Grounds.alike(0, 1).velocity(0, n, 0));
        due.range("12 north", -1000, 1, 1000, 1, "-1", n -> Grounds.alike(0, 1).velocity(0, 0, n));
        due.range("12 13 east stands", -1000, -1000, 1000, 1000, "1", n -> {
            CreepBoard x = Grounds.alike(0, 1);
            x.velocity(0, n, 0);
            return x.moves(0, 0);
        });
        due.range("12 13 north stands", -1000, -1000, 1000, 1000, "-1", n -> {
            CreepBoard x = Grounds.alike(0, 1);
            x.velocity(0, 0, n);
            return x.moves(0, 1);
        });
    }

    private static void frames() {
        due.range("14 a", -1000, 1, 1000, 1, "-1", n -> Grounds.alike(0, 2).frame(n, 0, 0));
        due.range("14 b", -1000, 1, 1000, 1, "-1", n -> Grounds.alike(0, 2).frame(0, n, 0));
        due.range("14 w", -9, 1, 9, 1, "-1", n -> Grounds.alike(0, 2).frame(0, 0, n));
        due.range("14 a without marks", -1000, 1, 1000, 1, "-1", n -> new CreepBoard().frame(n, 0, 0));
        due.range("14 b without marks", -1000, 1, 1000, 1, "-1", n -> new CreepBoard().frame(0, n, 0));
        due.range("14 w without marks", -9, 1, 9, 1, "-1", n -> new CreepBoard().frame(0, 0, n));
        due.range("14 less a in east", -1000, 1001, 1000, -999, "1", n -> tied(n, 0, 0).moves(0, 0));
        due.range("14 less b in north", -1000, 999, 1000, -1001, "-1", n -> tied(0, n, 0).moves(0, 1));
        due.range("14 w y more in east", -9, 2 - 9, 9, 2 + 9, "2", n -> tied(0, 0, n).moves(1, 0));
        due.range("14 less w x in north", -9, 9 - 2, 9, -9 - 2, "-2", n -> tied(0, 0, n).moves(1, 1));
    }

    private static CreepBoard tied(int a, int b, int w) {
        CreepBoard x = Grounds.alike(0, 2);
        x.frame(a, b, w);
        return x;
    }

    /** Both sides, both ends, as mark 0 and as the last mark: 100000 is taken, one more is not. */
    private static void framedVelocities() {
        for (int last = 0; last <= 1; last++) {
            int k = last;
            for (int sign = -1; sign <= 1; sign += 2) {
                int s = sign;
                String what = "14 mark " + k + " at " + 100000 * s;
                due.is(what + " east", 100000 * s, () -> atTheEnd(k, -s, 0).moves(k, 0));
                due.is(what + " east, one more", -2, () -> atTheEnd(k, -s, 0).frame(-s, 0, 0));
                due.is(what + " east, one less", 1, () -> atTheEnd(k, -s, 0).frame(s, 0, 0));
                due.is(what + " north", 100000 * s, () -> atTheEnd(k, 0, -s).moves(k, 1));
                due.is(what + " north, one more", -2, () -> atTheEnd(k, 0, -s).frame(0, -s, 0));
                due.is(what + " north, one less", 1, () -> atTheEnd(k, 0, -s).frame(0, s, 0));
                due.is(what + " east, north moves still", 1, () -> atTheEnd(k, -s, 0).frame(0, -s, 0));
            }
        }
    }

    /** One of two marks has come to 100000 by frames of 1000 at a time; the other, told 0 again, has not. */
    private static CreepBoard atTheEnd(int k, int a, int b) {
        CreepBoard x = new CreepBoard();
        x.mark(0, 0, 0);
        x.mark(0, 0, 0);
        for (int i = 0; i < 100; i++) {
            x.frame(1000 * a, 1000 * b, 0);
        }
        x.velocity(1 - k, 0, 0);
        return x;
    }

    private static void parts() {
        due.range("15 part", 0, 1, 3, -1, Due.ARGUMENT, n -> Grounds.alike(0, 3).strain(0, 1, 2, n, false));
        due.range("15 part, below", 0, 1, 3, 1, Due.ARGUMENT, n -> Grounds.alike(0, 3).strain(0, 1, 2, n, true));
    }

    private static void sets() {
        for (int marks = 1; marks <= 10; marks++) {
            int n = marks;
            int all = (1 << marks) - 1;
            due.range("16 sets of " + marks + " marks", 1, 1, all, 1, "-1", set -> atRest(n).block(set));
            due.is("16 a mark that there isn't, and one that there is", -1, () -> atRest(n).block(1 << n | 1));
            due.is("16 the highest bit and mark 0", -1, () -> atRest(n).block(Integer.MIN_VALUE | 1));
        }
    }

    private static CreepBoard atRest(int marks) {
        CreepBoard x = new CreepBoard();
        for (int k = 0; k < marks; k++) {
            x.mark(0, k, -k);
        }
        return x;
    }

    private static void greens() {
        due.range("19 cut", 0, 0, 2, 0, "-1001", n -> Grounds.alike(0, 1).green(0, n, 1));
        for (int c = 0; c < 3; c++) {
            int cut = c;
            due.range("19 green, cut " + cut, -20, 0, 20, 0, "-1001", n -> Grounds.alike(0, 1).green(0, cut, n));
            due.range("19 green stands, cut " + cut, -20, -20, 20, 20, "0", n -> {
                CreepBoard x = Grounds.alike(0, 1);
                x.green(0, cut, n);
                return x.green(0, cut, 0);
            });
            for (int n : new int[] {-20, -1, 1, 20}) {
                due.is("22 15 slips of green " + n + ", cut " + cut, 15, () -> slipping(cut, n, 15 * n).slip(cut, false));
                due.is("22 1 slip of green " + n + ", cut " + cut, 1, () -> slipping(cut, n, n).slip(cut, true));
                due.is("21 none below nought of green " + n + ", cut " + cut, 0, () -> slipping(cut, n, -n).fits());
            }
        }
    }

    /** One mark with one green number and an east velocity. */
    private static CreepBoard slipping(int cut, int green, int east) {
        CreepBoard x = new CreepBoard();
        x.mark(0, 0, 0);
        x.green(0, cut, green);
        x.velocity(0, east, 0);
        return x;
    }

    private static void tolerances() {
        due.range("20 tolerance", 0, 0, 100, 0, "-1", n -> new CreepBoard().tolerance(n));
        due.range("20 28 tolerance stands", 0, 0, 100, 100, "0", n -> {
            CreepBoard x = new CreepBoard();
            x.tolerance(n);
            return x.count(4);
        });
    }

    private static void slips() {
        due.range("22 cut", 0, 15, 2, 15, "-1", n -> new CreepBoard().slip(n, true));
        due.range("22 cut, least", 0, 0, 2, 0, "-1", n -> new CreepBoard().slip(n, false));
        for (int c = 0; c < 3; c++) {
            int cut = c;
            due.is("21 slip 0, cut " + cut, 256, () -> slipping(cut, 1, 0).fits());
            due.is("21 slip 15, cut " + cut, 256, () -> slipping(cut, 1, 15).fits());
            due.is("21 slip 16, cut " + cut, 0, () -> slipping(cut, 1, 16).fits());
            due.is("21 slip -1, cut " + cut, 0, () -> slipping(cut, 1, -1).fits());
            due.is("22 least 15, cut " + cut, 15, () -> slipping(cut, 1, 15).slip(cut, false));
            due.is("22 greatest 0, cut " + cut, 0, () -> slipping(cut, 1, 0).slip(cut, true));
            due.is("23 greatest 0 is locked, cut " + cut, 1 << cut, () -> slipping(cut, 1, 0).locked());
            due.is("23 greatest 1 is not, cut " + cut, 0, () -> slipping(cut, 1, 1).locked());
            due.is("22 none fit, cut " + cut, -4, () -> slipping(cut, 1, 16).slip(cut, false));
            due.is("22 none fit, greatest, cut " + cut, -4, () -> slipping(cut, 1, -1).slip(cut, true));
            due.is("23 none fit, cut " + cut, -4, () -> slipping(cut, 1, 16).locked());
        }
        due.is("23 least 0 and greatest above is not locked", 0, () -> {
            CreepBoard x = slipping(0, 1, 1);
            x.green(0, 1, 1);
            return x.locked();
        });
    }

    private static void unlikeByTolerance() {
        for (int n : new int[] {0, 1, 99, 100}) {
            due.is("21 more by " + n, 4096, () -> unlike(n, n, 0, 0).fits());
            due.is("21 less by " + n, 4096, () -> unlike(n, -n, 0, 0).fits());
            due.is("21 more by one over " + n, 0, () -> unlike(n, n + 1, 0, 0).fits());
            due.is("21 less by one over " + n, 0, () -> unlike(n, -n - 1, 0, 0).fits());
            for (int c = 0; c < 3; c++) {
                int cut = c;
                due.is("21 15 slips and " + n, 15, () -> unlike(n, 300 + n, cut, 20).slip(cut, false));
                due.is("21 15 slips and one over " + n, -4, () -> unlike(n, 301 + n, cut, 20).slip(cut, false));
                due.is("21 no slip and " + n, 0, () -> unlike(n, -n, cut, 20).slip(cut, true));
                due.is("21 no slip and one over " + n, -4, () -> unlike(n, -n - 1, cut, 20).slip(cut, true));
            }
        }
    }

    private static CreepBoard unlike(int tolerance, int east, int cut, int green) {
        CreepBoard x = slipping(cut, green, east);
        x.tolerance(tolerance);
        return x;
    }

    private static void rises() {
        due.range("24 rise", -10000, 0, 10000, 0, "-1", n -> Grounds.alike(0, 2).line(0, 1, n));
        due.range("24 27 rise stands", -10000, -10000, 10000, 10000, Due.STATE, n -> {
            CreepBoard x = Grounds.alike(0, 2);
            x.line(0, 1, n);
            return x.height(1);
        });
    }

    private static void whats() {
        due.range("26 what", 0, 1, 1, 8, "-1", n -> {
            CreepBoard x = Grounds.alike(0, 2);
            for (int i = 0; i < 4; i++) {
                x.line(0, 1, i / 3);
            }
            return x.wrong(n);
        });
        due.range("28 what", 0, 5, 4, 3, "-1", n -> Grounds.some().count(n));
        due.range("29 what: nothing, a mark", 0, 0, 1, 0, "-1", n -> Grounds.alike(0, 1).keep(0, n, 0));
        due.range("29 what: rows", 3, 0, 4, 0, "-1", n -> Grounds.alike(0, 1).keep(0, n, 0));
        due.range("30 what", 3, 0, 4, 0, "-1", n -> new CreepBoard().make(0, n, 1));
    }

    private static void shelves() {
        due.range("29 keep nothing: shelf", 0, 0, 7, 0, "-1", d -> Grounds.full().keep(d, 0, 0));
        due.range("29 keep a mark: shelf", 0, 0, 7, 0, "-1", d -> Grounds.full().keep(d, 1, 0));
        due.range("29 keep ints: shelf", 0, 0, 7, 0, "-1", d -> Grounds.full().keep(d, 3, 0));
        due.range("29 keep longs: shelf", 0, 0, 7, 0, "-1", d -> Grounds.full().keep(d, 4, 0));
        due.range("30 make: shelf", 0, 0, 7, 0, "-1", d -> new CreepBoard().make(d, 3, 1));
        due.range("31 element: shelf", 0, 0, 7, 0, Due.ARGUMENT, d -> allRows(3, 1).element(d, 0));
        due.range("32 copy: source", 0, 1, 7, 1, "-1", d -> allRows(3, 1).copy(d, 0, 4, 0, 1));
        due.range("32 copy: target", 0, 1, 7, 1, "-1", d -> allRows(4, 1).copy(4, 0, d, 0, 1));
        due.range("33 weight: shelf", 0, 111, 7, 111, "-1001", d -> allReceivers().weight(d));
        due.range("34 toss: shelf", 0, 0, 7, 0, "-1", d -> allReceivers().toss(d));
    }

    private static CreepBoard allRows(int what, int n) {
        CreepBoard x = new CreepBoard();
        for (int d = 0; d < 8; d++) {
            x.make(d, what, n);
        }
        return x;
    }

    private static CreepBoard allReceivers() {
        CreepBoard x = new CreepBoard();
        x.mark(1, 0, 0);
        x.read(0, 0, 0, 0);
        for (int d = 0; d < 8; d++) {
            x.keep(d, 1, 0);
        }
        return x;
    }

    private static void rows() {
        for (int w = 3; w <= 4; w++) {
            int what = w;
            due.is("30 a row of 0, what " + what, 0, () -> new CreepBoard().make(0, what, 0));
            due.is("30 a row of 60, what " + what, 0, () -> new CreepBoard().make(0, what, 60));
            due.is("30 a row of 61, what " + what, -1, () -> new CreepBoard().make(0, what, 61));
            due.is("30 a row of the most, what " + what, -1, () -> new CreepBoard().make(0, what, Integer.MAX_VALUE));
            due.is("30 a row of -1, what " + what, -14, () -> new CreepBoard().make(0, what, -1));
            due.is("30 a row of the least, what " + what, -14, () -> new CreepBoard().make(0, what, Integer.MIN_VALUE));
            for (int n : new int[] {1, 2, 59, 60}) {
                due.range("31 place in " + n, 0, 0, n - 1, 0, Due.STATE, i -> allRows(what, n).element(0, i));
                due.range("32 i, one of " + n, 0, 1, n - 1, 1, "-13", i -> allRows(what, n).copy(0, i, 1, 0, 1));
                due.range("32 j, one of " + n, 0, 1, n - 1, 1, "-13", j -> allRows(what, n).copy(0, 0, 1, j, 1));
                due.range("32 i, none of " + n, 0, 0, n, 0, "-13", i -> allRows(what, n).copy(0, i, 1, 0, 0));
                due.range("32 j, none of " + n, 0, 0, n, 0, "-13", j -> allRows(what, n).copy(0, 0, 1, j, 0));
                due.range("32 n of " + n, 0, 0, n, n, "-13", all -> allRows(what, n).copy(0, 0, 1, 0, all));
                due.range("32 n of " + n + " from 1 on", 0, 0, n - 1, n - 1, "-13",
                        all -> allRows(what, n).copy(0, 1, 1, 0, all));
                due.range("32 n of " + n + " to 1 on", 0, 0, n - 1, n - 1, "-13",
                        all -> allRows(what, n).copy(0, 0, 1, 1, all));
            }
        }
        due.is("32 i and n that come to less than 0", -13, () -> allRows(3, 5).copy(0, 1, 1, 0, Integer.MAX_VALUE));
        due.is("32 j and n that come to less than 0", -13, () -> allRows(3, 5).copy(0, 0, 1, Integer.MAX_VALUE, 5));
        due.is("32 all three", -13,
                () -> allRows(3, 5).copy(0, Integer.MAX_VALUE, 1, Integer.MAX_VALUE, Integer.MAX_VALUE));
        due.is("32 the shorter source tells", -13, () -> uneven().copy(0, 0, 1, 0, 3));
        due.is("32 the shorter target tells", -13, () -> uneven().copy(1, 0, 0, 0, 3));
        due.is("32 as many as the shorter has", 2, () -> uneven().copy(1, 0, 0, 0, 2));
        due.is("32 out of the longer's end", 2, () -> uneven().copy(1, 1, 0, 0, 2));
    }

    /** Shelf 0 has a row of 2, shelf 1 a row of 3. */
    private static CreepBoard uneven() {
        CreepBoard x = new CreepBoard();
        x.make(0, 3, 2);
        x.make(1, 3, 3);
        return x;
    }
}
