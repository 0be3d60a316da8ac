import java.util.Random;

/** Long runs of drawn calls, the same each time, on the class and on the slow model of the document. */
public final class ModelTest {
    private static final int MOST_CALLS = 512;
    private static final int[] FAR = {Integer.MIN_VALUE, Integer.MIN_VALUE + 1, -2, -1, Integer.MAX_VALUE - 1, Integer.MAX_VALUE};

    private final Random random;
    private final Due due;
    private final String run;
    private final CreepBoard x = new CreepBoard();
    private final Model m = new Model();
    private final int[] placesX = new int[10];
    private final int[] placesY = new int[10];
    private int calls = 0;

    private ModelTest(Due due, long seed) {
        this.random = new Random(seed);
        this.due = due;
        this.run = "run " + seed;
    }

    public static void main(String[] args) {
        int runs = args.length > 0 ? Integer.parseInt(args[0]) : 40;
        int first = args.length > 1 ? Integer.parseInt(args[1]) : 0;
        Due due = new Due();
        for (int seed = first; seed < first + runs; seed++) {
            ModelTest each = new ModelTest(due, seed);
            switch (seed % 5) {
                case 0 -> each.readings();
                case 1 -> each.motion();
                case 2 -> each.cuts();
                case 3 -> each.levels();
                default -> each.shelves();
            }
        }
        due.end();
    }

    private void ask(String call, Due.Call ofClass, Due.Call ofModel) {
        // What an object answers after its 512th call is free, so no more are asked of the class.
        if (calls == MOST_CALLS) {
            return;
        }
        calls++;
        due.compare(run + ", call " + calls + ": " + call, Due.outcome(ofModel), Due.outcome(ofClass));
    }

    /** Mostly within the bounds, at times at them, one beyond them, or far away. */
    private int draw(int from, int to) {
        int how = random.nextInt(60);
        if (how == 0) {
            return FAR[random.nextInt(FAR.length)];
        }
        if (how == 1) {
            return from - 1;
        }
        if (how == 2) {
            return to + 1;
        }
        if (how < 5) {
            return how == 3 ? from : to;
        }
        return from + random.nextInt(to - from + 1);
    }

    private int near(int from, int to, int reach) {
        return random.nextInt(8) == 0 ? draw(from, to) : draw(Math.max(from, -reach), Math.min(to, reach));
    }

    private int drawMark() {
        return draw(0, Math.max(0, m.count(0) - 1));
    }

    private void mark(int reach) {
        int kind = draw(0, 3);
        int px = near(-1000, 1000, reach);
        int py = near(-1000, 1000, reach);
        int before = m.count(0);
        ask("mark " + kind + " " + px + " " + py, () -> x.mark(kind, px, py), () -> m.mark(kind, px, py));
        if (m.count(0) > before) {
            placesX[before] = px;
            placesY[before] = py;
        }
    }

    private void marks(int n, int reach) {
        for (int i = 0; i < n; i++) {
            mark(reach);
        }
    }

    private void readings() {
        marks(1 + random.nextInt(5), 1000);
        int lastEpoch = 3 + random.nextInt(37);
        int reach = random.nextBoolean() ? 12 : 100000;
        for (int i = 0; i < 240; i++) {
            changeReadings(lastEpoch, reach);
            askReadings(lastEpoch);
        }
        askCounts();
    }

    private void changeReadings(int lastEpoch, int reach) {
        int k = drawMark();
        int e = draw(0, lastEpoch);
        int east = near(-100000, 100000, reach);
        int north = near(-100000, 100000, reach);
        int small = near(-10000, 10000, 9);
        int offset = draw(-99, 99);
        switch (random.nextInt(12)) {
            case 0 -> ask("gap " + k + " " + e, () -> x.gap(k, e), () -> m.gap(k, e));
            case 1 -> ask("step " + k + " " + e + " " + small + " " + offset,
                    () -> x.step(k, e, small, offset), () -> m.step(k, e, small, offset));
            case 2 -> ask("antenna " + k + " " + e + " " + offset,
                    () -> x.antenna(k, e, offset), () -> m.antenna(k, e, offset));
            case 3 -> {
                if (random.nextInt(20) == 0) {
                    mark(1000);
                }
            }
            default -> ask("read " + k + " " + e + " " + east + " " + north,
                    () -> x.read(k, e, east, north), () -> m.read(k, e, east, north));
        }
    }

    private void askReadings(int lastEpoch) {
        int k = drawMark();
        int e = draw(0, lastEpoch);
        int side = draw(0, 1);
        boolean lower = random.nextBoolean();
        switch (random.nextInt(6)) {
            case 0 -> ask("cleared " + k + " " + e + " " + side, () -> x.cleared(k, e, side), () -> m.cleared(k, e, side));
            case 1 -> ask("many " + k, () -> x.many(k), () -> m.many(k));
            case 2 -> ask("rate " + k + " " + side + " " + lower,
                    () -> x.rate(k, side, lower), () -> m.rate(k, side, lower));
            case 3 -> ask("jump " + k + " " + side, () -> x.jump(k, side), () -> m.jump(k, side));
            default -> ask("common " + e + " " + side, () -> x.common(e, side), () -> m.common(e, side));
        }
    }

    private void askCounts() {
        for (int what = -1; what <= 5; what++) {
            int n = what;
            ask("count " + what, () -> x.count(n), () -> m.count(n));
        }
    }

    private void motion() {
        // Places close to each other and few turnings, so that there are blocks to be told.
        int reach = random.nextBoolean() ? 2 : 20;
        int turnings = 1 + random.nextInt(4);
        marks(1 + random.nextInt(10), reach);
        for (int i = 0; i < 60; i++) {
            int k = drawMark();
            int east = near(-1000, 1000, 2);
            int north = near(-1000, 1000, 2);
            switch (random.nextInt(10)) {
                case 0 -> ask("velocity " + k + " " + east + " " + north,
                        () -> x.velocity(k, east, north), () -> m.velocity(k, east, north));
                case 1 -> frame();
                case 2 -> mark(reach);
                default -> turn(turnings);
            }
            askMotion();
        }
    }

    private void turn(int turnings) {
        int k = drawMark();
        int which = random.nextInt(turnings);
        int w = which - 1;
        int east = which * 3 - (k < 0 || k > 9 ? 0 : w * placesY[k]);
        int north = which + (k < 0 || k > 9 ? 0 : w * placesX[k]);
        ask("velocity " + k + " " + east + " " + north,
                () -> x.velocity(k, east, north), () -> m.velocity(k, east, north));
    }

    private void frame() {
        int a = near(-1000, 1000, 5);
        int b = near(-1000, 1000, 5);
        int w = draw(-9, 9);
        int again = random.nextInt(10) == 0 ? 14 : 1;
        for (int i = 0; i < again; i++) {
            ask("frame " + a + " " + b + " " + w, () -> x.frame(a, b, w), () -> m.frame(a, b, w));
        }
    }

    private void askMotion() {
        int a = drawMark();
        int b = drawMark();
        int c = drawMark();
        int part = draw(0, 3);
        boolean lower = random.nextBoolean();
        int set = draw(0, (1 << m.count(0)) - 1);
        ask("moves " + a + " " + part, () -> x.moves(a, part), () -> m.moves(a, part));
        ask("strain " + a + " " + b + " " + c + " " + part + " " + lower,
                () -> x.strain(a, b, c, part, lower), () -> m.strain(a, b, c, part, lower));
        ask("block " + set, () -> x.block(set), () -> m.block(set));
        if (random.nextInt(3) == 0) {
            ask("blocks", () -> x.blocks(), () -> m.blocks());
            ask("of " + a, () -> x.of(a), () -> m.of(a));
            ask("of " + b, () -> x.of(b), () -> m.of(b));
        }
    }

    private void cuts() {
        marks(random.nextInt(5), 20);
        int reach = 1 + random.nextInt(6);
        for (int i = 0; i < 120; i++) {
            int k = drawMark();
            int cut = draw(0, 2);
            int n = near(-20, 20, reach);
            int east = near(-1000, 1000, 30);
            int wide = draw(0, random.nextInt(4) == 0 ? 100 : 12);
            switch (random.nextInt(8)) {
                case 0 -> ask("velocity " + k + " " + east + " 0", () -> x.velocity(k, east, 0), () -> m.velocity(k, east, 0));
                case 1 -> ask("tolerance " + wide, () -> x.tolerance(wide), () -> m.tolerance(wide));
                case 2 -> {
                    if (random.nextInt(10) == 0) {
                        frame();
                        mark(20);
                    }
                }
                default -> ask("green " + k + " " + cut + " " + n, () -> x.green(k, cut, n), () -> m.green(k, cut, n));
            }
            boolean most = random.nextBoolean();
            ask("fits", () -> x.fits(), () -> m.fits());
            ask("slip " + cut + " " + most, () -> x.slip(cut, most), () -> m.slip(cut, most));
            ask("locked", () -> x.locked(), () -> m.locked());
        }
    }

    private void levels() {
        int marks = 2 + random.nextInt(9);
        marks(marks, 20);
        int reach = random.nextInt(3) + 1;
        for (int i = 0; i < 40; i++) {
            int a = drawMark();
            int b = drawMark();
            // Heights of their own, so that most lines agree, and some that don't.
            int rise = random.nextInt(3) == 0 ? near(-10000, 10000, reach) : b * b - a * a;
            if (random.nextInt(5) == 0) {
                ask("unline", () -> x.unline(), () -> m.unline());
            } else {
                ask("line " + a + " " + b + " " + rise, () -> x.line(a, b, rise), () -> m.line(a, b, rise));
            }
            if (m.count(3) < 12 || random.nextInt(4) == 0) {
                int what = draw(0, 1);
                int k = drawMark();
                ask("wrong " + what, () -> x.wrong(what), () -> m.wrong(what));
                ask("height " + k, () -> x.height(k), () -> m.height(k));
            }
        }
    }

    private void shelves() {
        marks(4, 10);
        for (int i = 0; i < 165; i++) {
            int d = draw(0, 7);
            int e = draw(0, 7);
            int what = draw(0, 4);
            int k = drawMark();
            int n = random.nextBoolean() ? draw(0, 60) : draw(0, 4);
            int p = draw(0, 6);
            int q = draw(0, 6);
            changeReadings(10, 1000);
            switch (random.nextInt(7)) {
                case 0, 1 -> ask("keep " + d + " " + what + " " + k, () -> x.keep(d, what, k), () -> m.keep(d, what, k));
                case 2 -> ask("make " + d + " " + what + " " + n, () -> x.make(d, what, n), () -> m.make(d, what, n));
                case 3 -> ask("weight " + d, () -> x.weight(d), () -> m.weight(d));
                case 4 -> ask("toss " + d, () -> x.toss(d), () -> m.toss(d));
                default -> ask("copy " + d + " " + p + " " + e + " " + q + " " + n,
                        () -> x.copy(d, p, e, q, n), () -> m.copy(d, p, e, q, n));
            }
            ask("element " + e + " " + q, () -> x.element(e, q), () -> m.element(e, q));
        }
        askCounts();
    }
}
