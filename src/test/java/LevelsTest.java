/** Promises 24 to 27: lines of levels. */
public final class LevelsTest {
    private static final Due due = new Due();

    public static void main(String[] args) {
        line();
        unline();
        wrong();
        wrongOfSeveralWays();
        wrongOfMany();
        height();
        heightRoundAbout();
        due.end();
    }

    private static CreepBoard board(int marks) {
        CreepBoard x = new CreepBoard();
        for (int k = 0; k < marks; k++) {
            x.mark(0, k, k);
        }
        return x;
    }

    private static void line() {
        CreepBoard x = board(3);
        due.is("24 no from", -1, () -> x.line(3, 0, 0));
        due.is("24 no from below", -1, () -> x.line(-1, 0, 0));
        due.is("24 no to", -1, () -> x.line(0, 3, 0));
        due.is("24 no to below", -1, () -> x.line(0, -1, 0));
        due.is("24 to itself", -1, () -> x.line(1, 1, 0));
        due.is("24 rise above", -1, () -> x.line(0, 1, 10001));
        due.is("24 rise below", -1, () -> x.line(0, 1, -10001));
        for (int k = 0; k < 14; k++) {
            int n = k;
            due.is("24 line " + k, k, () -> x.line(n % 3, (n + 1) % 3, n % 2 == 0 ? 10000 : -10000));
        }
        due.is("24 a fifteenth", -2, () -> x.line(0, 1, 0));
        due.is("24 out of range goes first", -1, () -> x.line(0, 0, 0));
        due.is("24 fourteen", 14, () -> x.count(3));
    }

    private static void unline() {
        CreepBoard x = board(2);
        due.is("25 none", -3, () -> x.unline());
        x.line(0, 1, 5);
        x.line(0, 1, 6);
        due.is("25 one left", 1, () -> x.unline());
        due.is("25 it was the last", 5, () -> x.height(1));
        due.is("25 none left", 0, () -> x.unline());
        due.is("25 none again", -3, () -> x.unline());
        due.is("25 numbers come again", 0, () -> x.line(1, 0, 1));
        due.is("25 and the new line holds", -1, () -> x.height(1));
    }

    private static void wrong() {
        CreepBoard x = board(4);
        due.is("26 no lines", 0, () -> x.wrong(0));
        due.is("26 no lines, bits", 0, () -> x.wrong(1));
        due.is("26 what above", -1, () -> x.wrong(2));
        due.is("26 what below", -1, () -> x.wrong(-1));
        x.line(0, 1, 3);
        x.line(1, 2, 4);
        x.line(2, 0, -7);
        due.is("26 a loop that closes", 0, () -> x.wrong(1));
        x.unline();
        x.line(0, 2, 7);
        due.is("26 against the arrow too", 0, () -> x.wrong(1));
        x.line(2, 3, 1);
        x.line(3, 0, -9);
        due.is("26 a loop that doesn't close", 1, () -> x.wrong(0));
        due.is("26 the least of 2 3 and 3 0", 8, () -> x.wrong(1));
        x.line(3, 1, -5);
        due.is("26 now 3 0 must be wrong", 16, () -> x.wrong(1));
        x.unline();
        due.is("26 unline changes it back", 8, () -> x.wrong(1));
    }

    private static void wrongOfSeveralWays() {
        CreepBoard x = board(3);
        x.line(0, 1, 1);
        x.line(1, 2, 1);
        x.line(2, 0, 1);
        due.is("26 any of three, the least", 1, () -> x.wrong(1));
        due.is("26 one", 1, () -> x.wrong(0));
        // Fewest goes ahead of least: lines 0 and 1 (bits 3) are two, line 2 (bits 4) is one.
        CreepBoard y = board(2);
        y.line(0, 1, 5);
        y.line(0, 1, 5);
        y.line(0, 1, 6);
        due.is("26 fewest ahead of least", 4, () -> y.wrong(1));
        y.line(1, 0, -6);
        due.is("26 two each, the least", 3, () -> y.wrong(1));
    }

    private static void wrongOfMany() {
        CreepBoard x = board(2);
        for (int k = 0; k < 14; k++) {
            x.line(0, 1, k);
        }
        due.is("26 all unlike: all but one", 13, () -> x.wrong(0));
        due.is("26 all but the last", 8191, () -> x.wrong(1));
        due.is("27 by the last", 13, () -> x.height(1));
        CreepBoard y = board(10);
        for (int k = 0; k < 9; k++) {
            y.line(k, k + 1, 10000);
        }
        for (int k = 0; k < 5; k++) {
            y.line(k, k + 5, 1);
        }
        due.is("26 five loops, one line of all of them", 16, () -> y.wrong(1));
        due.is("27 the height that is left", 1, () -> y.height(5));
        due.is("27 and on", 40001, () -> y.height(9));
        for (int k = 0; k < 5; k++) {
            y.unline();
        }
        for (int k = 0; k < 5; k++) {
            y.line(k, k + 5, k * k);
        }
        due.is("26 five loops, each its own", 5, () -> y.wrong(0));
    }

    private static void height() {
        CreepBoard x = new CreepBoard();
        due.refusesArgument("27 no mark at all", () -> x.height(0));
        for (int k = 0; k < 5; k++) {
            x.mark(0, k, 0);
        }
        due.is("27 mark 0 over itself", 0, () -> x.height(0));
        due.refusesState("27 no lines", () -> x.height(1));
        due.refusesArgument("27 no mark", () -> x.height(5));
        due.refusesArgument("27 no mark below", () -> x.height(-1));
        x.line(2, 1, 30);
        x.line(3, 4, 1);
        due.refusesState("27 not led to from 0", () -> x.height(1));
        x.line(2, 0, 100);
        due.is("27 down", -100, () -> x.height(2));
        due.is("27 down and up", -70, () -> x.height(1));
        due.refusesState("27 a line elsewhere", () -> x.height(4));
        x.line(4, 1, -10000);
        due.is("27 against the arrow", 9930, () -> x.height(4));
        due.is("27 on from there", 9929, () -> x.height(3));
        x.mark(0, 9, 9);
        due.refusesState("27 a new mark", () -> x.height(5));
    }

    private static void heightRoundAbout() {
        CreepBoard x = board(3);
        x.line(0, 1, 1);
        x.line(0, 1, 2);
        due.is("26 the first is wrong", 1, () -> x.wrong(1));
        due.is("27 by the second", 2, () -> x.height(1));
        x.line(1, 2, 5);
        x.line(2, 0, -6);
        due.is("26 the second is wrong", 2, () -> x.wrong(1));
        due.is("27 by the first", 1, () -> x.height(1));
        due.is("27 to the last", 6, () -> x.height(2));
        CreepBoard y = board(10);
        for (int k = 0; k < 9; k++) {
            y.line(k, k + 1, 10000);
        }
        due.is("27 nine lines up", 90000, () -> y.height(9));
    }
}
