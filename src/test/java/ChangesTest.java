import java.util.ArrayList;
import java.util.LinkedHashMap;
import java.util.List;
import java.util.Map;
import java.util.TreeSet;

/**
 * Calls that change something, on a board with some of everything: the answers that hang on what was told become
 * others, and no others do.
 */
public final class ChangesTest {
    private static final Due due = new Due();
    private static final String SLIPS = "fits|slip .*|locked";

    private final List<Map<String, String>> without = parts(x -> 0);

    public static void main(String[] args) {
        ChangesTest t = new ChangesTest();
        marks(t);
        antennas(t);
        readings(t);
        gaps(t);
        steps(t);
        motion(t);
        cuts(t);
        levels(t);
        shelves(t);
        copies(t);
        due.end();
    }

    /** What a mark's readings tell: whatever names the mark in these, and what all marks have in common. */
    private static String series(int k) {
        return "(cleared east|cleared north|rate|rate below|jump) " + k + " .*|common .*";
    }

    private static String shelf(int d) {
        return "(weight|toss|ints\\?|longs\\?) " + d + "|element " + d + " .*";
    }

    private static List<Map<String, String>> parts(Due.BoardCall call) {
        List<Map<String, String>> all = new ArrayList<>();
        for (String text : Later.answers(Grounds::some, call)) {
            Map<String, String> answers = new LinkedHashMap<>();
            for (String line : text.split("\n")) {
                int cut = line.lastIndexOf(' ');
                answers.put(line.substring(0, cut), line.substring(cut + 1));
            }
            all.add(answers);
        }
        return all;
    }

    /** Questions whose answers are others than without the call. */
    private TreeSet<String> changed(Due.BoardCall call) {
        List<Map<String, String>> with = parts(call);
        TreeSet<String> changed = new TreeSet<>();
        for (int part = 0; part < with.size(); part++) {
            TreeSet<String> questions = new TreeSet<>(without.get(part).keySet());
            questions.addAll(with.get(part).keySet());
            for (String question : questions) {
                String before = without.get(part).get(question);
                if (before == null || !before.equals(with.get(part).get(question))) {
                    changed.add(question);
                }
            }
        }
        return changed;
    }

    private void changes(String what, String may, Due.BoardCall call, String... must) {
        TreeSet<String> changed = changed(call);
        for (String question : must) {
            due.compare(what + " changes " + question, "true", Boolean.toString(changed.contains(question)));
        }
        changed.removeIf(question -> question.matches(may));
        due.compare(what + " changes nothing else", "[]", changed.toString());
    }

    private static void marks(ChangesTest t) {
        String ofFive = "(many|moves east|moves north|of|height|antenna|step|velocity|read|gap) 5|green 5 .*"
                + "|(cleared east|cleared north|rate|rate below|jump) 5 .*|strain (below )?3 .";
        for (int kind = 0; kind < 4; kind++) {
            int k = kind;
            // No triangle but 3, 4, 5 has the new mark as its last one; mark 5 is at rest, as no other is.
            t.changes("2 mark of kind " + k, "count 0|mark|blocks|of .|block .*|" + ofFive, x -> x.mark(k, 8, 9),
                    "count 0", "mark", "many 5", "block 32", "of 5", "height 5", "moves east 5", "antenna 5", "step 5");
        }
    }

    private static void antennas(ChangesTest t) {
        t.changes("3 antenna of mark 3", "antenna 3|" + series(3), x -> x.antenna(3, 5, 60),
                "antenna 3", "cleared east 3 8", "cleared north 3 38", "rate 3 0", "rate 3 1");
        t.changes("3 antenna of mark 3 from another epoch on", series(3), x -> x.antenna(3, 30, 7),
                "cleared east 3 23", "cleared north 3 28");
        t.changes("3 antenna of mark 2, on shelf 0", "antenna 2|weight 0|" + series(2), x -> x.antenna(2, 12, 60),
                "antenna 2", "weight 0", "cleared east 2 12", "cleared north 2 37");
        t.changes("3 the same antenna", "", x -> x.antenna(3, 20, 7));
    }

    private static void readings(ChangesTest t) {
        t.changes("4 a new reading of mark 4, on shelf 6", "count 1|many 4|weight 6|" + series(4),
                x -> x.read(4, 5, 1, 1), "count 1", "many 4", "weight 6", "cleared east 4 5", "cleared north 4 5");
        t.changes("4 another reading of mark 1, in rows on shelves 1 and 2", series(1),
                x -> x.read(1, 6, 1, 1), "cleared east 1 6", "cleared north 1 6", "rate 1 0", "rate 1 1");
        t.changes("4 another reading of the buoy", series(0), x -> x.read(0, 5, 1, 1),
                "cleared east 0 5", "cleared east 0 25", "cleared north 0 25", "common 25 0");
        t.changes("4 an early reading of the standing one, on shelf 0", "count 1|many 2|weight 0|" + series(2),
                x -> x.read(2, 0, 1, 1), "count 1", "many 2", "weight 0", "cleared east 2 7", "cleared north 2 7");
        t.changes("4 a later reading of mark 3", "count 1|many 3|read 3|" + series(3), x -> x.read(3, 20, 1, 1),
                "count 1", "many 3", "read 3", "cleared east 3 20");
        t.changes("4 the same reading", "", x -> x.read(1, 6, 136, 32));
    }

    private static void gaps(ChangesTest t) {
        t.changes("5 gap of mark 1, in rows on shelves 1 and 2", "count 1|many 1|gap 1|" + series(1),
                x -> x.gap(1, 21), "count 1", "many 1", "gap 1", "cleared east 1 21", "cleared north 1 21");
        t.changes("5 gap of the buoy", "count 1|many 0|" + series(0), x -> x.gap(0, 5),
                "count 1", "many 0", "cleared east 0 5", "cleared east 0 25", "cleared north 0 25");
        t.changes("5 gap of the standing one, on shelf 0", "count 1|many 2|weight 0|" + series(2), x -> x.gap(2, 2),
                "count 1", "many 2", "weight 0", "cleared east 2 12");
        t.changes("5 a gap that is there", "", x -> x.gap(3, 9));
    }

    private static void steps(ChangesTest t) {
        t.changes("6 step of mark 1", "count 2|step 1|" + series(1), x -> x.step(1, 20, 5, -5),
                "count 2", "step 1", "cleared east 1 21", "cleared north 1 36", "common 21 0");
        t.changes("6 step of the standing one", "count 2|step 2|" + series(2), x -> x.step(2, 0, 5, 0),
                "count 2", "step 2", "cleared east 2 12", "cleared east 2 37");
        t.changes("6 step of the buoy", "count 2|step 0|" + series(0), x -> x.step(0, 15, 0, 6),
                "count 2", "step 0", "cleared north 0 15", "cleared north 0 35");
        t.changes("6 step of nothing", "count 2|step 3", x -> x.step(3, 0, 0, 0), "count 2", "step 3");
    }

    private static void motion(ChangesTest t) {
        t.changes("12 velocity of mark 1", "moves east 1|moves north 1|velocity 1|blocks|of .|block .*|strain (below )?[01] .|" + SLIPS,
                x -> x.velocity(1, 900, 9), "moves east 1", "moves north 1", "of 1", "blocks", "fits", "strain 0 0", "strain 1 3");
        t.changes("12 the same velocity", "", x -> x.velocity(1, 3, 2));
        // A turning takes no mark out of its block, and changes no strain but the turning itself.
        t.changes("14 frame", "moves .*|velocity .|strain (below )?. 3|" + SLIPS, x -> x.frame(10, 20, 1),
                "moves east 0", "moves north 4", "strain 0 3", "strain 1 3", "fits");
        t.changes("14 frame without turning", "moves .*|velocity .|" + SLIPS, x -> x.frame(10, 20, 0),
                "moves east 0", "moves north 4", "fits");
        t.changes("14 a frame of nothing", "", x -> x.frame(0, 0, 0));
    }

    private static void cuts(ChangesTest t) {
        t.changes("19 green of mark 0", "green 0 0|" + SLIPS, x -> x.green(0, 0, 5), "green 0 0", "fits");
        t.changes("19 green of mark 3", "green 3 1|" + SLIPS, x -> x.green(3, 1, -3), "green 3 1", "fits");
        t.changes("19 the same green", "", x -> x.green(3, 2, 2));
        t.changes("20 tolerance", "count 4|tolerance|" + SLIPS, x -> x.tolerance(4), "count 4", "tolerance", "fits");
        t.changes("20 the same tolerance", "", x -> x.tolerance(3));
    }

    private static void levels(ChangesTest t) {
        String levels = "count 3|unline|line|line again|height .|wrong|wrong bits";
        t.changes("24 line to a mark", levels, x -> x.line(3, 4, 2), "count 3", "unline", "line", "line again", "height 4");
        t.changes("24 line that closes a loop", levels, x -> x.line(3, 0, 100), "count 3", "wrong");
        t.changes("25 unline", levels, x -> x.unline(), "count 3", "unline", "line", "line again", "height 3");
    }

    private static void shelves(ChangesTest t) {
        t.changes("29 a receiver to shelf 5", shelf(5), x -> x.keep(5, 1, 3), "weight 5", "toss 5");
        t.changes("29 a plain one to shelf 5", shelf(5), x -> x.keep(5, 1, 1), "weight 5", "toss 5");
        t.changes("29 nothing to shelf 1", shelf(1), x -> x.keep(1, 0, 0), "weight 1", "toss 1", "element 1 0");
        t.changes("29 ints to shelf 7", shelf(7), x -> x.keep(7, 3, 2), "element 7 0");
        t.changes("29 longs to shelf 7", shelf(7), x -> x.keep(7, 4, 2), "element 7 0", "longs? 7");
        t.changes("29 longs to shelf 6, where a mark is", shelf(6), x -> x.keep(6, 4, 1), "element 6 0", "toss 6", "longs? 6");
        t.changes("30 a row to shelf 3", shelf(3), x -> x.make(3, 4, 5), "element 3 1", "element 3 4", "longs? 3");
        t.changes("30 a row to shelf 5", shelf(5), x -> x.make(5, 3, 60), "element 5 0", "element 5 59", "weight 5");
    }

    private static void copies(ChangesTest t) {
        t.changes("32 ints", "element 3 [23]", x -> x.copy(1, 0, 3, 2, 2), "element 3 2", "element 3 3");
        t.changes("32 longs", "element 4 [78]", x -> x.copy(2, 1, 4, 7, 2), "element 4 7", "element 4 8");
        t.changes("32 onto itself", "element 1 [0-3]", x -> x.copy(1, 2, 1, 0, 4), "element 1 0", "element 1 3");
        t.changes("32 none", "", x -> x.copy(1, 0, 3, 0, 0));
        t.changes("32 each onto itself", "", x -> x.copy(1, 0, 1, 0, 8));
    }
}
