import java.util.ArrayList;
import java.util.List;

/**
 * Whatever a board can be asked, part by part. Each part wants a board of its own: an object answers 512 calls,
 * and one part changes what it asks about.
 */
final class Later {
    private static final int PARTS = 10;

    private Later() {
    }

    interface Maker {
        CreepBoard make();
    }

    /** All answers of boards that a maker makes, each after the same call. */
    static List<String> answers(Maker maker, Due.BoardCall call) {
        List<String> all = new ArrayList<>();
        for (int part = 0; part < PARTS; part++) {
            CreepBoard x = maker.make();
            Due.outcome(() -> call.answer(x));
            StringBuilder text = new StringBuilder();
            ask(part, x, text);
            all.add(text.toString());
        }
        return all;
    }

    private static void ask(int part, CreepBoard x, StringBuilder text) {
        switch (part) {
            case 0 -> askSeries(x, text);
            case 1 -> askMotion(x, text);
            case 2 -> askCutsAndLevels(x, text);
            case 3 -> askShelves(x, text);
            case 4 -> askByChanging(x, text);
            default -> askCleared(x, text, 2 * (part - 5));
        }
    }

    private static void put(StringBuilder text, String call, Due.Call answer) {
        text.append(call).append(' ').append(Due.outcome(answer)).append('\n');
    }

    private static void askSeries(CreepBoard x, StringBuilder text) {
        for (int n = 0; n < 5; n++) {
            int what = n;
            put(text, "count " + n, () -> x.count(what));
        }
        for (int n = 0; n < 20; n++) {
            int k = n / 2;
            int side = n % 2;
            put(text, "many " + k, () -> x.many(k));
            put(text, "jump " + k + " " + side, () -> x.jump(k, side));
            put(text, "rate " + k + " " + side, () -> x.rate(k, side, false));
            put(text, "rate below " + k + " " + side, () -> x.rate(k, side, true));
        }
        for (int n = 0; n < 80; n++) {
            int e = n / 2;
            int side = n % 2;
            put(text, "common " + e + " " + side, () -> x.common(e, side));
        }
    }

    /** Two marks at a time. Without such a mark every epoch is the same refusal. */
    private static void askCleared(CreepBoard x, StringBuilder text, int first) {
        for (int n = first; n < first + 2; n++) {
            int k = n;
            int epochs = x.many(k) < 0 ? 1 : 40;
            for (int i = 0; i < epochs; i++) {
                int e = i;
                put(text, "cleared east " + k + " " + e, () -> x.cleared(k, e, 0));
                put(text, "cleared north " + k + " " + e, () -> x.cleared(k, e, 1));
            }
        }
    }

    private static void askMotion(CreepBoard x, StringBuilder text) {
        put(text, "blocks", () -> x.blocks());
        for (int n = 0; n < 10; n++) {
            int k = n;
            put(text, "moves east " + k, () -> x.moves(k, 0));
            put(text, "moves north " + k, () -> x.moves(k, 1));
            put(text, "of " + k, () -> x.of(k));
        }
        for (int n = 1; n < 64; n++) {
            int set = n;
            put(text, "block " + n, () -> x.block(set));
        }
        for (int n = 0; n < 32; n++) {
            int a = n / 4;
            int part = n % 4;
            put(text, "strain " + a + " " + part, () -> x.strain(a, (a + 1) % 10, a + 2, part, false));
            put(text, "strain below " + a + " " + part, () -> x.strain(a, (a + 1) % 10, a + 2, part, true));
        }
    }

    private static void askCutsAndLevels(CreepBoard x, StringBuilder text) {
        put(text, "fits", () -> x.fits());
        for (int n = 0; n < 3; n++) {
            int cut = n;
            put(text, "slip least " + n, () -> x.slip(cut, false));
            put(text, "slip greatest " + n, () -> x.slip(cut, true));
        }
        put(text, "locked", () -> x.locked());
        put(text, "wrong", () -> x.wrong(0));
        put(text, "wrong bits", () -> x.wrong(1));
        for (int n = 0; n < 10; n++) {
            int k = n;
            put(text, "height " + k, () -> x.height(k));
        }
    }

    private static void askShelves(CreepBoard x, StringBuilder text) {
        for (int n = 0; n < 8; n++) {
            int d = n;
            put(text, "weight " + d, () -> x.weight(d));
            put(text, "toss " + d, () -> x.toss(d));
            put(text, "ints? " + d, () -> x.copy(0, 0, d, 0, 0));
            put(text, "longs? " + d, () -> x.copy(4, 0, d, 0, 0));
            for (int i : new int[] {0, 1, 2, 3, 4, 5, 7, 8, 9, 39, 55, 56, 57, 58, 59, 60}) {
                put(text, "element " + d + " " + i, () -> x.element(d, i));
            }
        }
    }

    /** What can be told only by the answers of calls that change something. */
    private static void askByChanging(CreepBoard x, StringBuilder text) {
        put(text, "tolerance", () -> x.tolerance(50));
        put(text, "unline", () -> x.unline());
        put(text, "line", () -> x.line(0, 1, 1));
        put(text, "line again", () -> x.line(0, 1, 2));
        for (int n = 0; n < 10; n++) {
            int k = n;
            put(text, "antenna " + k, () -> x.antenna(k, 0, 50));
            put(text, "step " + k, () -> x.step(k, 0, 1, 1));
            put(text, "velocity " + k, () -> x.velocity(k, 5 - k, 2 * k));
            put(text, "read " + k, () -> x.read(k, 20, 1, 1));
            put(text, "gap " + k, () -> x.gap(k, 21));
            for (int i = 0; i < 3; i++) {
                int cut = i;
                put(text, "green " + k + " " + cut, () -> x.green(k, cut, 10));
            }
        }
        put(text, "frame", () -> x.frame(-1, -1, 0));
        put(text, "frame back", () -> x.frame(1, 1, 0));
        put(text, "mark", () -> x.mark(0, 0, 0));
    }
}
