/** Promises 19 to 23: greens, tolerance, slips. */
public final class CutsTest {
    private static final Due due = new Due();

    public static void main(String[] args) {
        green();
        tolerance();
        fits();
        fitsWithTolerance();
        fitsBelowNought();
        fitsOfFastMarks();
        slip();
        locked();
        slipsAnew();
        due.end();
    }

    private static void green() {
        CreepBoard x = new CreepBoard();
        due.is("19 no mark at all", -1001, () -> x.green(0, 0, 0));
        x.mark(0, 0, 0);
        due.is("19 0 at first", 0, () -> x.green(0, 0, 20));
        due.is("19 the one before", 20, () -> x.green(0, 0, -20));
        due.is("19 the one before, below 0", -20, () -> x.green(0, 0, 1));
        due.is("19 each cut its own", 0, () -> x.green(0, 2, -1));
        due.is("19 -1 is an answer", -1, () -> x.green(0, 2, 2));
        due.is("19 no mark", -1001, () -> x.green(1, 0, 0));
        due.is("19 no mark below", -1001, () -> x.green(-1, 0, 0));
        due.is("19 no cut", -1001, () -> x.green(0, 3, 0));
        due.is("19 no cut below", -1001, () -> x.green(0, -1, 0));
        due.is("19 above", -1001, () -> x.green(0, 0, 21));
        due.is("19 below", -1001, () -> x.green(0, 0, -21));
        due.is("19 refused ones change nothing", 1, () -> x.green(0, 0, 1));
    }

    private static void tolerance() {
        CreepBoard x = new CreepBoard();
        due.is("20 0 at first", 0, () -> x.tolerance(100));
        due.is("20 the one before", 100, () -> x.tolerance(7));
        due.is("20 above", -1, () -> x.tolerance(101));
        due.is("20 below", -1, () -> x.tolerance(-1));
        due.is("20 refused ones change nothing", 7, () -> x.tolerance(0));
        due.is("20 back at 0", 0, () -> x.count(4));
    }

    private static void fits() {
        CreepBoard x = new CreepBoard();
        due.is("21 without marks all fit", 4096, () -> x.fits());
        x.mark(0, 0, 0);
        due.is("21 a mark at rest", 4096, () -> x.fits());
        x.velocity(0, 0, 500);
        due.is("21 north is nothing to it", 4096, () -> x.fits());
        x.velocity(0, 1, 0);
        due.is("21 no green has it", 0, () -> x.fits());
        x.green(0, 0, 1);
        due.is("21 one slip of one cut", 256, () -> x.fits());
        x.green(0, 1, 1);
        due.is("21 1 of two cuts", 32, () -> x.fits());
        x.green(0, 2, 1);
        due.is("21 1 of three cuts", 3, () -> x.fits());
        x.velocity(0, 45, 0);
        due.is("21 the greatest of all", 1, () -> x.fits());
        x.velocity(0, 46, 0);
        due.is("21 beyond the greatest", 0, () -> x.fits());
        x.mark(0, 1, 1);
        x.velocity(0, 20, 0);
        x.green(1, 0, 1);
        x.velocity(1, 5, 0);
        due.is("21 two marks at once", 16, () -> x.fits());
    }

    private static void fitsWithTolerance() {
        CreepBoard x = new CreepBoard();
        x.mark(0, 0, 0);
        x.velocity(0, 10, 0);
        x.green(0, 2, 3);
        due.is("21 3 s is 10 never", 0, () -> x.fits());
        x.tolerance(1);
        due.is("21 9 is unlike by 1", 256, () -> x.fits());
        x.tolerance(2);
        due.is("21 9 and 12", 512, () -> x.fits());
        x.tolerance(100);
        due.is("21 all", 4096, () -> x.fits());
        x.velocity(0, 145, 0);
        due.is("21 45 is unlike by 100", 256, () -> x.fits());
        x.velocity(0, -100, 0);
        due.is("21 0 is unlike by 100", 256, () -> x.fits());
        x.velocity(0, -101, 0);
        due.is("21 0 is unlike by 101", 0, () -> x.fits());
        x.green(0, 2, 0);
        due.is("21 no green, beyond", 0, () -> x.fits());
        x.velocity(0, -100, 0);
        due.is("21 no green, within", 4096, () -> x.fits());
        x.velocity(0, 101, 0);
        due.is("21 no green, beyond above", 0, () -> x.fits());
    }

    private static void fitsBelowNought() {
        CreepBoard x = new CreepBoard();
        x.mark(0, 0, 0);
        x.velocity(0, -10, 0);
        x.green(0, 2, -3);
        due.is("21 -3 s is -10 never", 0, () -> x.fits());
        x.tolerance(1);
        due.is("21 -9", 256, () -> x.fits());
        due.is("22 -9", 3, () -> x.slip(2, true));
        x.tolerance(2);
        due.is("22 -12", 4, () -> x.slip(2, true));
        due.is("22 -9 again", 3, () -> x.slip(2, false));
        x.velocity(0, -300, 0);
        x.green(0, 2, -20);
        x.tolerance(0);
        due.is("22 -300", 15, () -> x.slip(2, false));
        x.green(0, 2, 20);
        due.is("22 no slip below 0", -4, () -> x.slip(2, false));
    }

    /** East 65536, or as much below 0, is beyond what slips can come to. */
    private static void fitsOfFastMarks() {
        for (int sign = -1; sign <= 1; sign += 2) {
            CreepBoard x = new CreepBoard();
            x.mark(0, 0, 0);
            x.green(0, 0, 20);
            x.tolerance(100);
            for (int i = 0; i < 65; i++) {
                x.frame(sign * 1000, 0, 0);
            }
            x.frame(sign * 536, 0, 0);
            int east = -sign * 65536;
            due.is("13 east " + east, east, () -> x.moves(0, 0));
            due.is("21 none has east " + east, 0, () -> x.fits());
            due.is("22 none has east " + east, -4, () -> x.slip(0, true));
            due.is("23 none has east " + east, -4, () -> x.locked());
        }
    }

    private static void slip() {
        CreepBoard x = new CreepBoard();
        due.is("22 least without marks", 0, () -> x.slip(0, false));
        due.is("22 greatest without marks", 15, () -> x.slip(2, true));
        due.is("22 no cut", -1, () -> x.slip(3, true));
        due.is("22 no cut below", -1, () -> x.slip(-1, false));
        x.mark(0, 0, 0);
        x.green(0, 0, 2);
        x.green(0, 1, -1);
        x.velocity(0, 5, 0);
        // 2 a - b = 5: a 3 .. 10, b 1 .. 15.
        due.is("22 least of 0", 3, () -> x.slip(0, false));
        due.is("22 greatest of 0", 10, () -> x.slip(0, true));
        due.is("22 least of 1", 1, () -> x.slip(1, false));
        due.is("22 greatest of 1", 15, () -> x.slip(1, true));
        due.is("22 least of 2", 0, () -> x.slip(2, false));
        due.is("22 greatest of 2", 15, () -> x.slip(2, true));
        x.velocity(0, 31, 0);
        due.is("22 none fit", -4, () -> x.slip(0, true));
        due.is("22 no cut goes ahead of none fit", -1, () -> x.slip(3, true));
    }

    private static void locked() {
        CreepBoard x = new CreepBoard();
        due.is("23 without marks", 0, () -> x.locked());
        x.mark(0, 0, 0);
        x.green(0, 0, 1);
        x.green(0, 1, 1);
        x.green(0, 2, 1);
        due.is("23 all three", 7, () -> x.locked());
        x.green(0, 1, 0);
        due.is("23 0 and 2", 5, () -> x.locked());
        x.velocity(0, -1, 0);
        due.is("23 none fit", -4, () -> x.locked());
        x.tolerance(1);
        due.is("23 nought within the tolerance", 5, () -> x.locked());
        x.tolerance(2);
        due.is("23 one within the tolerance", 0, () -> x.locked());
    }

    private static void slipsAnew() {
        CreepBoard x = new CreepBoard();
        x.mark(0, 0, 3);
        x.green(0, 0, 1);
        due.is("21 before", 256, () -> x.fits());
        x.frame(-4, 0, 1);
        due.is("22 a frame changes it", 7, () -> x.slip(0, true));
        x.velocity(0, 3, 0);
        due.is("22 a velocity changes it", 3, () -> x.slip(0, true));
        x.green(0, 0, 3);
        due.is("22 a green changes it", 1, () -> x.slip(0, true));
        x.tolerance(3);
        due.is("22 a tolerance changes it", 2, () -> x.slip(0, true));
        x.mark(0, 0, 0);
        due.is("21 a mark at rest does not", 768, () -> x.fits());
    }
}
