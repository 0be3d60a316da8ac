/** Boards that tests ask, each made anew by the same calls. */
final class Grounds {
    private Grounds() {
    }

    /** Marks of one kind, no three of them in a line, each told of in ways that tell it from the others. */
    static CreepBoard alike(int kind, int marks) {
        CreepBoard x = new CreepBoard();
        for (int k = 0; k < marks; k++) {
            x.mark(kind, k, k * k);
            x.velocity(k, k + 1, -k - 1);
            for (int e = 0; e < 4; e++) {
                x.read(k, e, 10 * k + e, 10 * k - e);
            }
        }
        return x;
    }

    /** A mark of each kind, with the kind's number, and nothing told of it. */
    static CreepBoard kinds() {
        CreepBoard x = new CreepBoard();
        for (int kind = 0; kind < 4; kind++) {
            x.mark(kind, 0, 0);
        }
        return x;
    }

    /** Some of everything, with room left everywhere. Marks: 0 buoy, 1 plain, 2 standing, 3 receiver, 4 plain. */
    static CreepBoard some() {
        CreepBoard x = new CreepBoard();
        int[] kinds = {3, 0, 2, 1, 0};
        // Marks 1 and 2 are one block; within the tolerance there are slips that fit.
        int[] east = {5, 3, 3, 2, -1};
        int[] north = {0, 2, 2, 6, 8};
        for (int k = 0; k < kinds.length; k++) {
            x.mark(kinds[k], 7 * k, k * k - 3);
            x.velocity(k, east[k], north[k]);
            for (int e = k; e < 40; e += 5) {
                x.read(k, e, 100 * k + e * e, 50 - 3 * e);
            }
        }
        x.antenna(2, 12, -9);
        x.antenna(3, 20, 7);
        x.step(0, 10, 25, -4);
        x.step(1, 16, 300, 30);
        x.step(1, 30, -5, 6);
        x.green(0, 0, 1);
        x.green(0, 1, -1);
        x.green(3, 2, 2);
        x.tolerance(3);
        x.line(0, 1, 5);
        x.line(1, 2, 5);
        x.line(2, 0, 1);
        x.line(3, 2, 8);
        someShelves(x);
        return x;
    }

    /** 0 standing, 1 ints, 2 longs, 3 ints, 4 longs, 5 nothing, 6 plain, 7 an empty row of ints. */
    private static void someShelves(CreepBoard x) {
        x.keep(0, 1, 2);
        x.keep(1, 3, 1);
        x.keep(2, 4, 1);
        x.make(3, 3, 4);
        x.make(4, 4, 9);
        x.copy(1, 2, 3, 1, 2);
        x.keep(6, 1, 4);
        x.make(7, 3, 0);
    }

    /** 10 marks with 10 steps each, 14 lines, rows of 60, velocities at their ends. Marks: 1 and 5 receivers. */
    static CreepBoard full() {
        CreepBoard x = new CreepBoard();
        for (int k = 0; k < 10; k++) {
            x.mark(k % 4, k % 2 == 0 ? 0 : 1000, k == 9 ? -1000 : k);
            for (int i = 0; i < 10; i++) {
                x.step(k, 4 * i, k + i, k - i);
            }
            for (int e = k; e < k + 4; e++) {
                x.read(k, 3 * e, e * e, -e);
            }
        }
        x.antenna(5, 10, 33);
        x.green(9, 2, -20);
        // Mark 9 comes to -100000 in east and in north.
        for (int i = 0; i < 10; i++) {
            x.frame(1000, 1000, 9);
        }
        for (int i = 0; i < 14; i++) {
            x.line(i % 10, (i + 1 + i / 10) % 10, i);
        }
        x.tolerance(100);
        fullShelves(x);
        return x;
    }

    /** 0 to 3 rows of 60 ints, 4 and 5 of 60 longs, 6 a buoy, 7 a receiver. */
    private static void fullShelves(CreepBoard x) {
        for (int d = 0; d < 6; d++) {
            x.make(d, d < 4 ? 3 : 4, 60);
        }
        x.keep(0, 3, 0);
        x.copy(0, 0, 1, 56, 4);
        x.make(0, 3, 60);
        x.copy(1, 56, 0, 0, 4);
        x.keep(6, 1, 3);
        x.keep(7, 1, 5);
    }
}
