import java.util.ArrayDeque;
import java.util.ArrayList;
import java.util.Deque;
import java.util.HashMap;
import java.util.List;
import java.util.Map;
import java.util.Set;
import java.util.TreeSet;
import java.util.regex.Matcher;
import java.util.regex.Pattern;

/** The document once more, written slowly and in another way, to compare answers with. */
final class Model {
    private static final int NO_SUCH = -1, BAD_VALUE = -2, BAD_TEXT = -3, TOO_MANY = -4, NOT_POSSIBLE = -5, NONE = -6;
    private static final String NOTE = "(?:0|[1-9][0-9]?)";
    private static final String CHORD = NOTE + "(?:/(?:5|64|6|7))?(?:=" + NOTE + "," + NOTE + "," + NOTE + ")?";
    private static final Pattern TEXT = Pattern.compile(CHORD + "(?:;" + CHORD + ")*");

    /** A chord; upper is null without upper voices. */
    private record Chord(int bass, int figure, List<Integer> upper) {
        List<Integer> four() {
            return List.of(bass, upper.get(0), upper.get(1), upper.get(2));
        }

        Chord with(List<Integer> others) {
            return new Chord(bass, figure, others);
        }
    }

    private record State(int key, int span, int leap, List<Chord> chords) {
    }

    private State now = new State(0, 16, 7, List.of());
    private final Deque<State> past = new ArrayDeque<>();
    private final State[] slots = new State[2];
    private String pad = "";

    private void become(State then) {
        past.addLast(now);
        if (past.size() > 6) {
            past.removeFirst();
        }
        now = then;
    }

    private State withChords(List<Chord> chords) {
        return new State(now.key, now.span, now.leap, List.copyOf(chords));
    }

    private boolean lacks(int chord) {
        return chord < 0 || chord >= now.chords.size();
    }

    int set(int setting, int value) {
        int[] old = {now.key, now.span, now.leap};
        int[][] ranges = {{0, 11}, {7, 24}, {1, 12}};
        if (setting < 0 || setting > 2 || value < ranges[setting][0] || value > ranges[setting][1]) {
            return BAD_VALUE;
        }
        int[] settings = old.clone();
        settings[setting] = value;
        become(new State(settings[0], settings[1], settings[2], now.chords));
        return old[setting];
    }

    int chord(int at, int bass, int figure) {
        if (at < 0 || at > now.chords.size()) {
            return NO_SUCH;
        }
        if (bass < 36 || bass > 59 || !Set.of(5, 6, 64, 7).contains(figure)) {
            return BAD_VALUE;
        }
        if (now.chords.size() == 10) {
            return TOO_MANY;
        }
        List<Chord> chords = new ArrayList<>(now.chords);
        chords.add(at, new Chord(bass, figure, null));
        become(withChords(chords));
        return chords.size();
    }

    int takeOut(int chord) {
        if (lacks(chord)) {
            return NO_SUCH;
        }
        List<Chord> chords = new ArrayList<>(now.chords);
        chords.remove(chord);
        become(withChords(chords));
        return chords.size();
    }

    private State voiced(int chord, List<Integer> upper) {
        List<Chord> chords = new ArrayList<>(now.chords);
        chords.set(chord, chords.get(chord).with(upper));
        return withChords(chords);
    }

    int voice(int chord, int tenor, int alto, int soprano) {
        int faults = ifVoiced(chord, tenor, alto, soprano);
        if (faults >= 0) {
            become(voiced(chord, List.of(tenor, alto, soprano)));
        }
        return faults;
    }

    int silence(int chord) {
        if (lacks(chord)) {
            return NO_SUCH;
        }
        if (now.chords.get(chord).upper == null) {
            return NOT_POSSIBLE;
        }
        become(voiced(chord, null));
        return (int) now.chords.stream().filter(c -> c.upper != null).count();
    }

    int transpose(int by) {
        if (by < -12 || by > 12) {
            return BAD_VALUE;
        }
        List<Chord> chords = new ArrayList<>();
        for (Chord c : now.chords) {
            List<Integer> upper = c.upper == null ? null : c.upper.stream().map(n -> n + by).toList();
            if (c.bass + by < 36 || c.bass + by > 59) {
                return NOT_POSSIBLE;
            }
            if (upper != null && upper.stream().anyMatch(n -> n < 0 || n > 99)) {
                return NOT_POSSIBLE;
            }
            chords.add(new Chord(c.bass + by, c.figure, upper));
        }
        become(new State((now.key + by + 24) % 12, now.span, now.leap, List.copyOf(chords)));
        return now.key;
    }

    int realise() {
        List<Chord> best = best();
        if (best == null) {
            return NOT_POSSIBLE;
        }
        become(withChords(best));
        return count(4);
    }

    int ifRealised() {
        List<Chord> best = best();
        return best == null ? NOT_POSSIBLE : costs(best);
    }

    private static int costs(List<Chord> chords) {
        int sum = 0;
        for (int i = 1; i < chords.size(); i++) {
            sum += cost(chords.get(i - 1), chords.get(i));
        }
        return sum;
    }

    private static int cost(Chord ahead, Chord chord) {
        if (ahead.upper == null || chord.upper == null) {
            return 0;
        }
        int sum = 0;
        for (int voice = 0; voice < 3; voice++) {
            sum += Math.abs(ahead.upper.get(voice) - chord.upper.get(voice));
        }
        return sum;
    }

    /** The best chords, the first chords of all that are as good sorted ahead; null if there are none. */
    private List<Chord> best() {
        if (now.chords.isEmpty()) {
            return null;
        }
        return bestFrom(0, null, new HashMap<>());
    }

    /** The best chords from one on, behind the one ahead as it would be. */
    private List<Chord> bestFrom(int chord, Chord ahead, Map<String, List<Chord>> known) {
        if (chord == now.chords.size()) {
            return List.of();
        }
        String state = chord + ":" + ahead;
        if (known.containsKey(state)) {
            return known.get(state);
        }
        Chord mine = now.chords.get(chord);
        boolean given = mine.upper != null;
        List<Chord> ways = given ? List.of(mine) : voicings(mine).stream().map(mine::with).toList();
        List<Chord> best = null;
        int least = Integer.MAX_VALUE;
        for (Chord way : ways) {
            boolean free = !given || chord > 0 && now.chords.get(chord - 1).upper == null;
            if (ahead != null && free && !faultsBehind(ahead, way).isEmpty()) {
                continue;
            }
            List<Chord> rest = bestFrom(chord + 1, way, known);
            if (rest == null) {
                continue;
            }
            List<Chord> all = new ArrayList<>(List.of(way));
            all.addAll(rest);
            int cost = costs(all) + (ahead == null ? 0 : cost(ahead, way));
            if (cost < least) {
                least = cost;
                best = all;
            }
        }
        known.put(state, best);
        return best;
    }

    int read() {
        if (fault() != NONE) {
            return BAD_TEXT;
        }
        String[] texts = pad.split(";");
        if (texts.length > 10) {
            return TOO_MANY;
        }
        List<Chord> chords = new ArrayList<>();
        for (String text : texts) {
            String[] halves = text.split("=");
            String[] first = halves[0].split("/");
            int bass = Integer.parseInt(first[0]);
            List<Integer> upper = null;
            if (halves.length > 1) {
                upper = new ArrayList<>();
                for (String note : halves[1].split(",")) {
                    upper.add(Integer.parseInt(note));
                }
            }
            if (bass < 36 || bass > 59) {
                return BAD_VALUE;
            }
            chords.add(new Chord(bass, first.length > 1 ? Integer.parseInt(first[1]) : 5, upper));
        }
        become(withChords(chords));
        pad = "";
        return chords.size();
    }

    private int toneOfStep(int step) {
        return (now.key + new int[] {0, 2, 4, 5, 7, 9, 11}[step % 7]) % 12;
    }

    private int step(int note) {
        for (int step = 0; step < 7; step++) {
            if (toneOfStep(step) == note % 12) {
                return step;
            }
        }
        return NONE;
    }

    private Set<Integer> tones(Chord c) {
        Set<Integer> tones = new TreeSet<>();
        int step = step(c.bass);
        if (step == NONE) {
            return tones;
        }
        tones.add(toneOfStep(step));
        tones.add(toneOfStep(step + (c.figure == 64 ? 3 : 2)));
        tones.add(toneOfStep(step + (c.figure == 5 || c.figure == 7 ? 4 : 5)));
        if (c.figure == 7) {
            tones.add(toneOfStep(step + 6));
        }
        return tones;
    }

    private Set<Integer> ownFaults(Chord c) {
        Set<Integer> faults = new TreeSet<>();
        List<Integer> four = c.four();
        int tenor = four.get(1);
        int alto = four.get(2);
        int soprano = four.get(3);
        boolean inRange = 48 <= tenor && tenor <= 67 && 53 <= alto && alto <= 74 && 58 <= soprano && soprano <= 79;
        if (!inRange || !(c.bass < tenor && tenor < alto && alto < soprano)) {
            faults.add(0);
        }
        if (alto > tenor + 12 || soprano > alto + 12 || soprano > tenor + now.span) {
            faults.add(1);
        }
        Set<Integer> tones = tones(c);
        if (!c.upper.stream().allMatch(n -> tones.contains(n % 12))) {
            faults.add(2);
        }
        if (!four.stream().map(n -> n % 12).toList().containsAll(tones)) {
            faults.add(3);
        }
        if (four.stream().filter(n -> n % 12 == toneOfStep(6)).count() > 1) {
            faults.add(4);
        }
        return faults;
    }

    private static boolean isParallel(Chord ahead, Chord c, int lower, int upper, int interval) {
        int lowerThen = ahead.four().get(lower);
        int upperThen = ahead.four().get(upper);
        int lowerNow = c.four().get(lower);
        int upperNow = c.four().get(upper);
        return (upperThen - lowerThen + 120) % 12 == interval && (upperNow - lowerNow + 120) % 12 == interval
            && lowerThen != lowerNow && upperThen != upperNow;
    }

    /** The pairs of voices that are parallel, as parallel() tells them, the lowest first. */
    private static TreeSet<Integer> pairs(Chord ahead, Chord c, int interval) {
        TreeSet<Integer> pairs = new TreeSet<>();
        for (int pair = 0; pair < 16; pair++) {
            if (pair / 4 < pair % 4 && isParallel(ahead, c, pair / 4, pair % 4, interval)) {
                pairs.add(pair);
            }
        }
        return pairs;
    }

    private Set<Integer> faultsBehind(Chord ahead, Chord c) {
        Set<Integer> faults = new TreeSet<>();
        if (!pairs(ahead, c, 7).isEmpty()) {
            faults.add(5);
        }
        if (!pairs(ahead, c, 0).isEmpty()) {
            faults.add(6);
        }
        for (int voice = 0; voice < 3; voice++) {
            int then = ahead.upper.get(voice);
            int rise = c.upper.get(voice) - then;
            if (rise > now.leap || rise < -now.leap) {
                faults.add(7);
            }
            if (then % 12 == toneOfStep(6) && tones(c).contains(now.key) && rise != 1) {
                faults.add(8);
            }
        }
        return faults;
    }

    private Set<Integer> faults(int chord, Chord c) {
        Set<Integer> faults = new TreeSet<>();
        if (c.upper != null) {
            faults.addAll(ownFaults(c));
            if (chord > 0 && now.chords.get(chord - 1).upper != null) {
                faults.addAll(faultsBehind(now.chords.get(chord - 1), c));
            }
        }
        return faults;
    }

    private static int mask(Set<Integer> set) {
        return set.stream().mapToInt(member -> 1 << member).sum();
    }

    private List<List<Integer>> voicings(Chord c) {
        List<List<Integer>> found = new ArrayList<>();
        Set<Integer> tones = tones(c);
        for (int tenor = c.bass + 1; tenor <= 67; tenor++) {
            for (int alto = tenor + 1; tones.contains(tenor % 12) && alto <= 74; alto++) {
                for (int soprano = alto + 1; tones.contains(alto % 12) && soprano <= 79; soprano++) {
                    List<Integer> upper = List.of(tenor, alto, soprano);
                    if (tones.contains(soprano % 12) && ownFaults(c.with(upper)).isEmpty()) {
                        found.add(upper);
                    }
                }
            }
        }
        return found;
    }

    int of(int chord, int what) {
        if (lacks(chord)) {
            return NO_SUCH;
        }
        if (what < 0 || what > 9) {
            return BAD_VALUE;
        }
        Chord c = now.chords.get(chord);
        if (what >= 2 && what <= 4) {
            return c.upper == null ? NONE : c.upper.get(what - 2);
        }
        return switch (what) {
            case 0 -> c.bass;
            case 1 -> c.figure;
            case 5 -> mask(tones(c));
            case 6 -> mask(faults(chord, c));
            case 7 -> chord == 0 ? 0 : cost(now.chords.get(chord - 1), c);
            case 8 -> voicings(c).size();
            default -> step(c.bass);
        };
    }

    int voicing(int chord, int rank, int what) {
        if (lacks(chord)) {
            return NO_SUCH;
        }
        List<List<Integer>> all = voicings(now.chords.get(chord));
        if (rank < 0 || rank >= all.size()) {
            return NO_SUCH;
        }
        return what < 0 || what > 2 ? BAD_VALUE : all.get(rank).get(what);
    }

    int count(int what) {
        int many = now.chords.size();
        int voiced = 0;
        int faulty = 0;
        int faults = 0;
        int highest = NONE;
        for (int chord = 0; chord < many; chord++) {
            Chord c = now.chords.get(chord);
            voiced += c.upper == null ? 0 : 1 << chord;
            faulty += faults(chord, c).isEmpty() ? 0 : 1 << chord;
            faults += faults(chord, c).size();
            highest = c.upper == null ? highest : Math.max(highest, c.upper.get(2));
        }
        int[] all = {many, voiced, faulty, faults, costs(now.chords), now.key, now.span, now.leap, highest, pad.length(), past.size()};
        return what < 0 || what >= all.length ? BAD_VALUE : all[what];
    }

    int parallel(int chord, int kind) {
        if (lacks(chord)) {
            return NO_SUCH;
        }
        if (kind != 5 && kind != 6) {
            return BAD_VALUE;
        }
        if (!faults(chord, now.chords.get(chord)).contains(kind)) {
            return NONE;
        }
        return pairs(now.chords.get(chord - 1), now.chords.get(chord), kind == 5 ? 7 : 0).first();
    }

    int nearest(int chord, int what) {
        if (lacks(chord)) {
            return NO_SUCH;
        }
        if (what < 0 || what > 3) {
            return BAD_VALUE;
        }
        if (chord == 0 || now.chords.get(chord - 1).upper == null) {
            return NOT_POSSIBLE;
        }
        Chord ahead = now.chords.get(chord - 1);
        Chord best = null;
        for (List<Integer> upper : voicings(now.chords.get(chord))) {
            Chord c = now.chords.get(chord).with(upper);
            if (faults(chord, c).isEmpty() && (best == null || cost(ahead, c) < cost(ahead, best))) {
                best = c;
            }
        }
        if (best == null) {
            return NONE;
        }
        return what == 3 ? cost(ahead, best) : best.upper.get(what);
    }

    int ifVoiced(int chord, int tenor, int alto, int soprano) {
        if (lacks(chord)) {
            return NO_SUCH;
        }
        for (int note : new int[] {tenor, alto, soprano}) {
            if (note < 0 || note > 99) {
                return BAD_VALUE;
            }
        }
        return mask(faults(chord, now.chords.get(chord).with(List.of(tenor, alto, soprano))));
    }

    int keys() {
        int keys = 0;
        for (int key = 0; key < 12; key++) {
            Set<Integer> scale = Set.of(key, (key + 2) % 12, (key + 4) % 12, (key + 5) % 12, (key + 7) % 12, (key + 9) % 12, (key + 11) % 12);
            if (now.chords.stream().allMatch(c -> scale.contains(c.bass % 12))) {
                keys += 1 << key;
            }
        }
        return keys;
    }

    int put(long characters) {
        String hex = Long.toHexString(characters);
        hex = hex.length() % 2 == 0 ? hex : "0" + hex;
        StringBuilder text = new StringBuilder();
        for (int i = 0; i < hex.length(); i += 2) {
            text.append((char) Integer.parseInt(hex.substring(i, i + 2), 16));
        }
        if (!text.chars().allMatch(code -> code >= 33 && code <= 126)) {
            return BAD_VALUE;
        }
        if (pad.length() + text.length() > 80) {
            return TOO_MANY;
        }
        pad += text;
        return pad.length();
    }

    int wipe() {
        int length = pad.length();
        pad = "";
        return length;
    }

    int fault() {
        for (int length = 1; length <= pad.length(); length++) {
            Matcher matcher = TEXT.matcher(pad.substring(0, length));
            if (!matcher.matches() && !matcher.hitEnd()) {
                return length - 1;
            }
        }
        return TEXT.matcher(pad).matches() ? NONE : pad.length();
    }

    int undo() {
        if (past.isEmpty()) {
            return NOT_POSSIBLE;
        }
        now = past.removeLast();
        return past.size();
    }

    int save(int slot) {
        if (slot != 0 && slot != 1) {
            return BAD_VALUE;
        }
        slots[slot] = now;
        return now.chords.size();
    }

    int restore(int slot) {
        if (slot != 0 && slot != 1) {
            return BAD_VALUE;
        }
        if (slots[slot] == null) {
            return NOT_POSSIBLE;
        }
        become(slots[slot]);
        return now.chords.size();
    }
}
