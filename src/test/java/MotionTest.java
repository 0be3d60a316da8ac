/** Promises 12 to 18: velocities, strain, blocks. */
public final class MotionTest {
    private static final Due due = new Due();

    public static void main(String[] args) {
        velocity();
        moves();
        frame();
        frameBeyond();
        strain();
        strainRefusals();
        strainOfTheLeastTriangles();
        strainAtTheEdges();
        strainOfFastMarks();
        block();
        blockOnOnePlace();
        blockBeyondInts();
        blockUnlikeBeyondInts();
        blocks();
        blocksOfSeveralWays();
        blocksAnew();
        tenBlocks();
        due.end();
    }

    private static CreepBoard board(int... places) {
        CreepBoard x = new CreepBoard();
        for (int i = 0; i + 1 < places.length; i += 2) {
            x.mark(0, places[i], places[i + 1]);
        }
        return x;
    }

    private static void velocity() {
        CreepBoard x = board(0, 0);
        due.is("12 as at first", 0, () -> x.velocity(0, 0, 0));
        due.is("12 another east", 1, () -> x.velocity(0, 1000, 0));
        due.is("12 another north", 1, () -> x.velocity(0, 1000, -1000));
        due.is("12 the same", 0, () -> x.velocity(0, 1000, -1000));
        due.is("12 no mark", -1, () -> x.velocity(1, 0, 0));
        due.is("12 no mark below", -1, () -> x.velocity(-1, 0, 0));
        due.is("12 east above", -1, () -> x.velocity(0, 1001, 0));
        due.is("12 east below", -1, () -> x.velocity(0, -1001, 0));
        due.is("12 north above", -1, () -> x.velocity(0, 0, 1001));
        due.is("12 north below", -1, () -> x.velocity(0, 0, -1001));
        due.is("12 refused ones change nothing", 0, () -> x.velocity(0, 1000, -1000));
        x.frame(1000, -500, 0);
        due.is("12 before is what the frame left, the same", 0, () -> x.velocity(0, 0, -500));
        due.is("12 before is what the frame left, another", 1, () -> x.velocity(0, 1000, -1000));
    }

    private static void moves() {
        CreepBoard x = board(0, 0);
        due.is("13 0 at first", 0, () -> x.moves(0, 0));
        x.velocity(0, 3, -4);
        due.is("13 east", 3, () -> x.moves(0, 0));
        due.is("13 north", -4, () -> x.moves(0, 1));
        due.refusesArgument("13 no mark", () -> x.moves(1, 0));
        due.refusesArgument("13 no mark below", () -> x.moves(-1, 0));
        due.refusesArgument("13 no side", () -> x.moves(0, 2));
        due.refusesArgument("13 no side below", () -> x.moves(0, -1));
    }

    private static void frame() {
        CreepBoard none = new CreepBoard();
        due.is("14 without marks", 1, () -> none.frame(1000, -1000, 9));
        CreepBoard x = board(2, 3, -5, 7);
        x.velocity(0, 10, 20);
        due.is("14 tied", 1, () -> x.frame(100, 200, 4));
        due.is("14 east: 10 - (100 - 4 * 3)", -78, () -> x.moves(0, 0));
        due.is("14 north: 20 - (200 + 4 * 2)", -188, () -> x.moves(0, 1));
        due.is("14 east: 0 - (100 - 4 * 7)", -72, () -> x.moves(1, 0));
        due.is("14 north: 0 - (200 + 4 * -5)", -180, () -> x.moves(1, 1));
        due.is("14 tied to nothing", 1, () -> x.frame(0, 0, 0));
        due.is("14 east is as it was", -78, () -> x.moves(0, 0));
        due.is("14 a above", -1, () -> x.frame(1001, 0, 0));
        due.is("14 a below", -1, () -> x.frame(-1001, 0, 0));
        due.is("14 b above", -1, () -> x.frame(0, 1001, 0));
        due.is("14 b below", -1, () -> x.frame(0, -1001, 0));
        due.is("14 w above", -1, () -> x.frame(0, 0, 10));
        due.is("14 w below", -1, () -> x.frame(0, 0, -10));
        due.is("14 refused ones change nothing", -78, () -> x.moves(0, 0));
    }

    private static void frameBeyond() {
        CreepBoard x = board(0, 0, 0, 1000);
        for (int i = 0; i < 10; i++) {
            due.is("14 by 10000 at a time", 1, () -> x.frame(-1000, 0, 9));
        }
        due.is("14 at the end", 100000, () -> x.moves(1, 0));
        due.is("14 beyond", -2, () -> x.frame(-1, 0, 0));
        due.is("14 the other mark stays too", 10000, () -> x.moves(0, 0));
        due.is("14 out of range goes first", -1, () -> x.frame(-1, 0, 10));
        due.is("14 back from the end", 1, () -> x.frame(1, 0, 0));
        due.is("14 less one", 99999, () -> x.moves(1, 0));
        CreepBoard y = board(0, 0, 1000, 0);
        for (int i = 0; i < 10; i++) {
            y.frame(0, 1000, 9);
        }
        due.is("14 at the other end", -100000, () -> y.moves(1, 1));
        due.is("14 beyond the other end", -2, () -> y.frame(0, 1, 0));
        CreepBoard first = board(1000, 0, 0, 0);
        for (int i = 0; i < 10; i++) {
            first.frame(0, 1000, 9);
        }
        due.is("14 mark 0 beyond", -2, () -> first.frame(0, 1, 0));
        due.is("14 and all stay", -10000, () -> first.moves(1, 1));
    }

    private static void strain() {
        CreepBoard x = board(1, 1, 4, 2, 2, 6);
        x.velocity(0, 1, 1);
        x.velocity(1, 3, 8);
        x.velocity(2, -4, 2);
        // x1 3, y1 1, u1 2, v1 7; x2 1, y2 5, u2 -5, v2 1; D 14.
        due.is("15 EE above", 15, () -> x.strain(0, 1, 2, 0, false));
        due.is("15 EE below", 14, () -> x.strain(0, 1, 2, 0, true));
        due.is("15 NN above: -4 by 14", -2, () -> x.strain(0, 1, 2, 1, false));
        due.is("15 NN below", 7, () -> x.strain(0, 1, 2, 1, true));
        due.is("15 EN above: -17 + 34 by 14", 17, () -> x.strain(0, 1, 2, 2, false));
        due.is("15 EN below", 14, () -> x.strain(0, 1, 2, 2, true));
        due.is("15 TURN above: 34 + 17 by 14", 51, () -> x.strain(0, 1, 2, 3, false));
        due.is("15 TURN below", 14, () -> x.strain(0, 1, 2, 3, true));
        due.is("15 D below 0: EE above", 15, () -> x.strain(0, 2, 1, 0, false));
        due.is("15 D below 0: EE below", 14, () -> x.strain(0, 2, 1, 0, true));
        due.is("15 D below 0: NN above", -2, () -> x.strain(0, 2, 1, 1, false));
        due.is("15 D below 0: NN below", 7, () -> x.strain(0, 2, 1, 1, true));
        x.velocity(1, 1, 1);
        x.velocity(2, 1, 1);
        due.is("15 nought above", 0, () -> x.strain(0, 2, 1, 2, false));
        due.is("15 nought below", 1, () -> x.strain(0, 2, 1, 2, true));
    }

    private static void strainRefusals() {
        CreepBoard x = board(0, 0, 1, 1, 3, 3, 0, 5);
        due.refusesState("15 in a line", () -> x.strain(0, 1, 2, 0, false));
        due.refusesState("15 one mark twice", () -> x.strain(0, 3, 0, 0, true));
        due.refusesArgument("15 first", () -> x.strain(4, 1, 3, 0, false));
        due.refusesArgument("15 second", () -> x.strain(0, 4, 3, 0, false));
        due.refusesArgument("15 third", () -> x.strain(0, 1, -1, 0, false));
        due.refusesArgument("15 part above", () -> x.strain(0, 1, 3, 4, false));
        due.refusesArgument("15 part below", () -> x.strain(0, 1, 3, -1, false));
        due.refusesArgument("15 no part goes ahead of a line", () -> x.strain(0, 1, 2, 4, false));
    }

    private static void strainOfTheLeastTriangles() {
        CreepBoard x = board(5, 5, 6, 5, 5, 6, 7, 4);
        x.velocity(1, 3, -2);
        x.velocity(2, -7, 4);
        // D is 1, or -1 the other way round: the fraction is the same.
        long[] above = {3, 4, -9, 5};
        for (int n = 0; n < 4; n++) {
            int part = n;
            due.is("15 D 1, part " + n, above[n], () -> x.strain(0, 1, 2, part, false));
            due.is("15 D 1, below, part " + n, 1, () -> x.strain(0, 1, 2, part, true));
            due.is("15 D -1, part " + n, above[n], () -> x.strain(0, 2, 1, part, false));
            due.is("15 D -1, below, part " + n, 1, () -> x.strain(0, 2, 1, part, true));
            due.refusesState("15 D 0, part " + n, () -> x.strain(1, 2, 3, part, false));
            due.refusesState("15 D 0, below, part " + n, () -> x.strain(3, 1, 2, part, true));
        }
    }

    private static void strainAtTheEdges() {
        CreepBoard x = board(-1000, -1000, 1000, -999, -999, 1000);
        for (int i = 0; i < 10; i++) {
            x.frame(0, 0, 9);
        }
        // u = 90 y, v = -90 x: EE and NN are 0, TURN twice is -180.
        due.is("15 EE", 0, () -> x.strain(0, 1, 2, 0, false));
        due.is("15 NN", 0, () -> x.strain(0, 1, 2, 1, false));
        due.is("15 EN", 0, () -> x.strain(0, 1, 2, 2, false));
        due.is("15 TURN", -180, () -> x.strain(0, 1, 2, 3, false));
        due.is("15 TURN by", 1, () -> x.strain(0, 1, 2, 3, true));
    }

    private static void strainOfFastMarks() {
        CreepBoard x = turned();
        due.is("15 TURN of all", -180, () -> x.strain(0, 1, 2, 3, false));
        due.is("15 TURN of all, from mark 1", -180, () -> x.strain(1, 2, 0, 3, false));
        x.velocity(0, 0, 0);
        due.is("15 EE: 10000 by 1000", 10, () -> x.strain(0, 1, 2, 0, false));
        due.is("15 NN: -10000 by 1000", -10, () -> x.strain(0, 1, 2, 1, false));
        due.is("15 EN: 100000 - 100000", 0, () -> x.strain(0, 1, 2, 2, false));
        due.is("15 TURN: -200000 by 1000", -200, () -> x.strain(0, 1, 2, 3, false));
    }

    /** Marks that have come to (10000, -10000), (10000, -100000) and (100000, -10000): they turn with w = -90. */
    private static CreepBoard turned() {
        CreepBoard x = board(0, 0, 1000, 0, 0, 1000);
        for (int i = 0; i < 10; i++) {
            x.frame(-1000, 1000, 9);
        }
        return x;
    }

    private static void block() {
        CreepBoard x = board(0, 0, 4, 0, 0, 4, 4, 4);
        due.is("16 all at rest", 1, () -> x.block(15));
        due.is("16 empty", -1, () -> x.block(0));
        due.is("16 beyond the marks", -1, () -> x.block(16));
        due.is("16 partly beyond the marks", -1, () -> x.block(17));
        due.is("16 below 0", -1, () -> x.block(-1));
        due.is("16 the least int", -1, () -> x.block(Integer.MIN_VALUE));
        // w = 1/4 about mark 0.
        x.velocity(1, 0, 1);
        due.is("16 two of them", 1, () -> x.block(3));
        due.is("16 three, not", 0, () -> x.block(7));
        x.velocity(2, -1, 0);
        due.is("16 three with a fraction w", 1, () -> x.block(7));
        due.is("16 four, not", 0, () -> x.block(15));
        x.velocity(3, -1, 1);
        due.is("16 four", 1, () -> x.block(15));
        x.velocity(3, -1, 2);
        due.is("16 wrong north", 0, () -> x.block(15));
        x.velocity(3, 0, 1);
        due.is("16 wrong east", 0, () -> x.block(15));
        x.velocity(1, 1, 0);
        due.is("16 two that drift apart", 0, () -> x.block(3));
        due.is("16 one alone", 1, () -> x.block(2));
        due.is("16 mark 0 alone", 1, () -> x.block(1));
        CreepBoard none = new CreepBoard();
        due.is("16 without marks", -1, () -> none.block(1));
    }

    private static void blockOnOnePlace() {
        CreepBoard x = board(5, 5, 5, 5, 6, 5);
        due.is("16 one place, alike", 1, () -> x.block(3));
        x.velocity(0, 1, 0);
        x.velocity(1, 1, 0);
        due.is("16 one place and another", 0, () -> x.block(7));
        x.velocity(2, 1, 9);
        due.is("16 one place and another that turns", 1, () -> x.block(7));
        x.velocity(1, 1, 1);
        due.is("16 one place, unlike", 0, () -> x.block(3));
        due.is("16 unlike ones with a third", 0, () -> x.block(7));
    }

    private static void blockBeyondInts() {
        CreepBoard x = board(-1000, -1000, 1000, 1000, 1000, -1000, -1000, 1000);
        for (int i = 0; i < 10; i++) {
            x.frame(0, 0, 9);
        }
        due.is("16 great numbers, a block", 1, () -> x.block(15));
        x.velocity(3, 0, 0);
        due.is("16 great numbers, none", 0, () -> x.block(15));
        due.is("16 great numbers, the others", 1, () -> x.block(7));
    }

    /** Marks 0 and 1 at rest, 2^19 apart by squares; a third moves by 2^13: products of 2^32 are not 0. */
    private static void blockUnlikeBeyondInts() {
        for (int side = 0; side < 2; side++) {
            CreepBoard x = board(0, 0, 512, 512, 512, -512);
            for (int i = 0; i < 8; i++) {
                x.frame(side == 0 ? -1000 : 0, side == 1 ? -1000 : 0, 0);
            }
            x.frame(side == 0 ? -192 : 0, side == 1 ? -192 : 0, 0);
            x.velocity(0, 0, 0);
            x.velocity(1, 0, 0);
            int s = side;
            due.is("13 2^13, side " + s, 8192, () -> x.moves(2, s));
            due.is("16 it moves, side " + s, 0, () -> x.block(7));
            due.is("17 it moves, side " + s, 2, () -> x.blocks());
        }
    }

    private static void blocks() {
        CreepBoard x = new CreepBoard();
        due.is("17 no mark", -3, () -> x.blocks());
        due.is("18 no mark", -1, () -> x.of(0));
        x.mark(0, 0, 0);
        due.is("17 one mark", 1, () -> x.blocks());
        due.is("18 one mark", 1, () -> x.of(0));
        due.is("18 none below", -1, () -> x.of(-1));
        due.is("18 none above", -1, () -> x.of(1));
        x.mark(0, 1, 0);
        due.is("17 two at rest", 1, () -> x.blocks());
        due.is("18 two at rest", 3, () -> x.of(1));
        x.velocity(1, 1, 0);
        due.is("17 two apart", 2, () -> x.blocks());
        due.is("18 two apart", 2, () -> x.of(1));
    }

    private static void blocksOfSeveralWays() {
        // In one row of places with equal north: any two are a block, three only if north is straight.
        CreepBoard x = board(0, 0, 1, 0, 2, 0, 3, 0);
        x.velocity(0, 0, 0);
        x.velocity(1, 0, 1);
        x.velocity(2, 0, 4);
        x.velocity(3, 0, 9);
        due.is("17 pairs", 2, () -> x.blocks());
        due.is("18 mark 0's least: 0 and 1", 3, () -> x.of(0));
        due.is("18 then 2 and 3", 12, () -> x.of(3));
        x.mark(0, 4, 0);
        x.velocity(4, 0, 2);
        // 0 2 4 would need north 0 4 8; 1 with 4: north 1 at 1, 2 at 4.
        due.is("17 five with no straight three", 3, () -> x.blocks());
        due.is("18 mark 0 alone is least", 1, () -> x.of(0));
        due.is("18 then 1 and 2", 6, () -> x.of(1));
        due.is("18 then 3 and 4", 24, () -> x.of(4));
        x.velocity(4, 0, 8);
        // 0 2 4 are straight: with 1 and 3 two blocks.
        due.is("17 a straight three", 2, () -> x.blocks());
        due.is("18 the straight three", 21, () -> x.of(2));
        due.is("18 the two others", 10, () -> x.of(3));
    }

    private static void blocksAnew() {
        CreepBoard x = board(0, 0, 1, 0);
        x.velocity(0, 5, 0);
        due.is("17 before", 2, () -> x.blocks());
        x.velocity(1, 5, 0);
        due.is("17 a velocity changes it", 1, () -> x.blocks());
        due.is("18 a velocity changes it", 3, () -> x.of(0));
        x.mark(0, 7, 7);
        due.is("17 a mark changes it", 2, () -> x.blocks());
        due.is("18 0 and 1 are one still", 3, () -> x.of(0));
        due.is("18 1 and 2 are not one", 0, () -> x.block(6));
        x.velocity(2, 5, 0);
        x.frame(1, 2, 3);
        due.is("17 a frame leaves it", 1, () -> x.blocks());
        due.is("18 a frame leaves it", 7, () -> x.of(2));
    }

    private static void tenBlocks() {
        CreepBoard x = new CreepBoard();
        for (int k = 0; k < 10; k++) {
            x.mark(k % 4, 1, 1);
            x.velocity(k, k, -k);
        }
        due.is("17 ten on one place", 10, () -> x.blocks());
        due.is("18 the last", 512, () -> x.of(9));
        due.is("16 the last ones", 0, () -> x.block(1023 ^ 255));
        for (int k = 0; k < 10; k++) {
            x.velocity(k, k / 5, 0);
        }
        due.is("17 two of five", 2, () -> x.blocks());
        due.is("18 the first five", 31, () -> x.of(4));
        due.is("18 the other five", 992, () -> x.of(5));
    }
}
