import java.util.ArrayList;
import java.util.List;
import java.util.Set;

/**
 * Edges of promises, each told by rows on a new object of its own. A row is a call with the answer that is due
 * ("takeOut(0) NO_SUCH"), with faults that the answer has or lacks ("of(1, 6) has 5"), or with none, where any answer is
 * due that is not an error; the row "text 48/6;50" puts a text on the pad.
 *
 * Behind each call that is refused, and each one that only asks, two objects are compared, one with that call and one
 * without: what they tell, their pads, what can be undone, and what the slots keep.
 */
final class Edges {
    private static final Set<String> ASKING = Set.of("of", "voicing", "count", "parallel", "ifRealised", "nearest", "ifVoiced",
        "keys", "fault");
    /** Each of these runs of calls brings something to light that an object keeps. */
    private static final List<List<String>> PROBES = List.of(
        List.of(),
        List.of("undo()"),
        List.of("undo()", "undo()"),
        List.of("undo()", "undo()", "undo()"),
        List.of("undo()", "undo()", "undo()", "undo()"),
        List.of("undo()", "undo()", "undo()", "undo()", "undo()"),
        List.of("undo()", "undo()", "undo()", "undo()", "undo()", "undo()"),
        List.of("restore(0)"),
        List.of("restore(1)"),
        List.of("read()"),
        List.of("put('5')", "fault()", "read()"),
        List.of("put('40')", "fault()", "read()"),
        List.of("put(';40')", "fault()", "read()"),
        List.of("put(',1,2,3')", "fault()", "read()"));

    private final Check check;
    private final int[] edges = new int[24];

    Edges(String name) {
        check = new Check(name);
    }

    void edge(int promise, String name, String rows) {
        edges[promise]++;
        String title = promise + ", " + name + ": ";
        Caller x = new Caller();
        List<String> made = new ArrayList<>();
        for (String row : rows.strip().split("\n")) {
            for (String told : calls(row.strip())) {
                make(title, x, told, made);
            }
        }
    }

    void holds(String what, boolean truth) {
        check.holds(what, truth);
    }

    /** A row as calls: a text is put in parts of eight characters. */
    private static List<String> calls(String row) {
        if (!row.startsWith("text ")) {
            return List.of(row);
        }
        List<String> puts = new ArrayList<>();
        String text = row.substring("text ".length());
        for (int from = 0; from < text.length(); from += 8) {
            puts.add("put('" + text.substring(from, Math.min(from + 8, text.length())) + "')");
        }
        return puts;
    }

    private void make(String title, Caller x, String row, List<String> made) {
        int end = row.lastIndexOf(')') + 1;
        String call = row.substring(0, end);
        int answer = x.call(call);
        compare(title + call, answer, row.substring(end).strip());
        boolean refused = answer < 0 && answer > Caller.answer("NONE");
        if (refused || ASKING.contains(Caller.nameOf(call))) {
            changesNothing(title + call, call, made);
        } else {
            made.add(call);
        }
    }

    private void compare(String call, int answer, String due) {
        if (due.isEmpty()) {
            check.holds(call + " answered " + answer + ", an error", answer >= 0);
        } else if (due.startsWith("has ") || due.startsWith("lacks ")) {
            int fault = Integer.parseInt(due.substring(due.indexOf(' ') + 1));
            check.holds(call + " answered " + answer + ", no set", answer >= 0);
            check.due(call + ", fault " + fault, answer >> fault & 1, due.startsWith("has ") ? 1 : 0);
        } else {
            check.due(call, answer, Caller.answer(due));
        }
    }

    private void changesNothing(String title, String call, List<String> made) {
        List<String> with = new ArrayList<>(made);
        with.add(call);
        for (List<String> probe : PROBES) {
            check.holds(title + " changes nothing, seen by " + probe, told(with, probe).equals(told(made, probe)));
        }
    }

    /** All that a new object tells after some calls and a probe. */
    private static List<Integer> told(List<String> calls, List<String> probe) {
        Caller x = new Caller();
        for (String call : calls) {
            x.call(call);
        }
        List<Integer> told = new ArrayList<>();
        for (String call : probe) {
            told.add(x.call(call));
        }
        for (int what = 0; what <= 10; what++) {
            told.add(x.call("count(" + what + ")"));
        }
        told.add(x.call("fault()"));
        int chords = x.call("count(0)");
        for (int chord = 0; chord < chords; chord++) {
            for (int what = 0; what <= 7; what++) {
                told.add(x.call("of(" + chord + ", " + what + ")"));
            }
        }
        return told;
    }

    /** Ends the program, with exit code 1 if an answer was wrong, or a promise from the first to the last has no edge. */
    void end(int firstPromise, int lastPromise) {
        for (int promise = firstPromise; promise <= lastPromise; promise++) {
            check.holds("promise " + promise + " has edges", edges[promise] > 0);
            System.out.println("promise " + promise + ": " + edges[promise] + " edges");
        }
        check.end();
    }
}
