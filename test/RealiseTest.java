import java.util.ArrayList;
import java.util.List;
import java.util.Random;

/** Promises 8 and 14 to the letter: all ways of short pieces, one after the other, each looked at whole. */
public final class RealiseTest {
    private static final int PIECES = 1500, NOT_POSSIBLE = -5;
    private static final int[] SCALE = {0, 2, 4, 5, 7, 9, 11};
    private static final int[] FIGURES = {5, 5, 5, 6, 6, 64, 7};

    private static final Check check = new Check("RealiseTest");
    private static int possible = 0;
    private static int impossible = 0;
    private static int ties = 0;

    private final Random random;
    private final FiguredBasses x = new FiguredBasses();
    private final int key;
    private final int span;
    private final int leap;
    private final int[] basses;
    private final int[] figures;
    /** The upper voices that a chord has, null without. */
    private final int[][] given;
    private final List<List<int[]>> choices = new ArrayList<>();
    private final int[][] way;
    private int[][] best = null;
    private int least = 0;
    private int asGood = 0;

    private RealiseTest(int seed) {
        random = new Random(seed);
        int chords = 1 + below(4);
        key = below(12);
        span = below(2) == 0 ? 16 : 7 + below(18);
        leap = below(2) == 0 ? 7 : 1 + below(12);
        basses = new int[chords];
        figures = new int[chords];
        given = new int[chords][];
        way = new int[chords][];
    }

    public static void main(String[] args) {
        for (int seed = 1; seed <= PIECES && check.allRight(); seed++) {
            RealiseTest piece = new RealiseTest(seed);
            piece.write();
            piece.tryAll(0);
            piece.compare("piece " + seed + ": ");
        }
        System.out.println(possible + " pieces can be realised, " + ties + " in several best ways, " + impossible + " cannot");
        check.holds("the pieces reach what they are for", possible > 500 && ties > 50 && impossible > 100);
        check.end();
    }

    private int below(int bound) {
        return random.nextInt(bound);
    }

    private void write() {
        x.set(FiguredBasses.KEY, key);
        x.set(FiguredBasses.SPAN, span);
        x.set(FiguredBasses.LEAP, leap);
        for (int chord = 0; chord < basses.length; chord++) {
            basses[chord] = below(30) == 0 ? 36 + below(24) : 36 + (key + SCALE[below(7)]) % 12 + 12 * below(2);
            figures[chord] = FIGURES[below(FIGURES.length)];
            List<int[]> all = voicings(chord);
            given[chord] = below(3) == 0 ? givenVoices(all) : null;
            choices.add(given[chord] == null ? all : List.of(given[chord]));
            x.chord(chord, basses[chord], figures[chord]);
            if (given[chord] != null) {
                x.voice(chord, given[chord][0], given[chord][1], given[chord][2]);
            }
        }
    }

    /** One of the voicings, often with a note moved, or any notes if there is none. */
    private int[] givenVoices(List<int[]> all) {
        int[] notes = all.isEmpty() ? new int[] {48 + below(20), 53 + below(22), 58 + below(22)} : all.get(below(all.size())).clone();
        if (below(2) == 0) {
            notes[below(3)] += below(9) - 4;
        }
        return notes;
    }

    private List<int[]> voicings(int chord) {
        List<int[]> all = new ArrayList<>();
        for (int tenor = 48; tenor <= 67; tenor++) {
            for (int alto = 53; alto <= 74; alto++) {
                for (int soprano = 58; soprano <= 79; soprano++) {
                    int[] notes = {tenor, alto, soprano};
                    if (isVoicing(chord, notes)) {
                        all.add(notes);
                    }
                }
            }
        }
        return all;
    }

    private boolean[] tones(int chord) {
        boolean[] tones = new boolean[12];
        for (int step = 0; step < 7; step++) {
            if ((key + SCALE[step]) % 12 == basses[chord] % 12) {
                int[] ups = switch (figures[chord]) {
                    case 5 -> new int[] {0, 2, 4};
                    case 6 -> new int[] {0, 2, 5};
                    case 64 -> new int[] {0, 3, 5};
                    default -> new int[] {0, 2, 4, 6};
                };
                for (int up : ups) {
                    tones[(key + SCALE[(step + up) % 7]) % 12] = true;
                }
            }
        }
        return tones;
    }

    private boolean isVoicing(int chord, int[] notes) {
        boolean[] tones = tones(chord);
        int[] many = new int[12];
        many[basses[chord] % 12]++;
        for (int note : notes) {
            if (!tones[note % 12]) {
                return false;
            }
            many[note % 12]++;
        }
        for (int tone = 0; tone < 12; tone++) {
            if (tones[tone] && many[tone] == 0) {
                return false;
            }
        }
        return basses[chord] < notes[0] && notes[0] < notes[1] && notes[1] < notes[2]
            && notes[1] - notes[0] <= 12 && notes[2] - notes[1] <= 12 && notes[2] - notes[0] <= span
            && many[(key + 11) % 12] <= 1;
    }

    /** Goes through all ways, those ahead in the order first, so that of several best ways the first one is kept. */
    private void tryAll(int chord) {
        if (chord == way.length) {
            look();
            return;
        }
        for (int[] notes : choices.get(chord)) {
            way[chord] = notes;
            tryAll(chord + 1);
        }
    }

    private void look() {
        int costs = 0;
        for (int chord = 1; chord < way.length; chord++) {
            boolean both = given[chord - 1] != null && given[chord] != null;
            if (!both && isFaulty(chord)) {
                return;
            }
            for (int voice = 0; voice < 3; voice++) {
                costs += Math.abs(way[chord][voice] - way[chord - 1][voice]);
            }
        }
        if (best == null || costs < least) {
            best = way.clone();
            least = costs;
            asGood = 1;
        } else if (costs == least) {
            asGood++;
        }
    }

    /** Whether the chord would have one of the faults 5 to 8. */
    private boolean isFaulty(int chord) {
        int[] ahead = {basses[chord - 1], way[chord - 1][0], way[chord - 1][1], way[chord - 1][2]};
        int[] now = {basses[chord], way[chord][0], way[chord][1], way[chord][2]};
        boolean hasTonic = tones(chord)[key];
        for (int upper = 1; upper < 4; upper++) {
            int rise = now[upper] - ahead[upper];
            if (Math.abs(rise) > leap || hasTonic && ahead[upper] % 12 == (key + 11) % 12 && rise != 1) {
                return true;
            }
            for (int lower = 0; lower < upper; lower++) {
                int interval = Math.floorMod(ahead[upper] - ahead[lower], 12);
                boolean kept = interval == Math.floorMod(now[upper] - now[lower], 12);
                if (kept && (interval == 7 || interval == 0) && rise != 0 && now[lower] != ahead[lower]) {
                    return true;
                }
            }
        }
        return false;
    }

    private void compare(String piece) {
        if (best == null) {
            impossible++;
            check.due(piece + "ifRealised()", x.ifRealised(), NOT_POSSIBLE);
            check.due(piece + "realise()", x.realise(), NOT_POSSIBLE);
            return;
        }
        possible++;
        ties += asGood > 1 ? 1 : 0;
        check.due(piece + "ifRealised()", x.ifRealised(), least);
        check.due(piece + "realise()", x.realise(), least);
        check.due(piece + "costs", x.count(4), least);
        for (int chord = 0; chord < best.length; chord++) {
            for (int voice = 0; voice < 3; voice++) {
                check.due(piece + "of(" + chord + ", " + (2 + voice) + ")", x.of(chord, 2 + voice), best[chord][voice]);
            }
        }
    }
}
