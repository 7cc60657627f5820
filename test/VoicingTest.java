/** All voicings of all chords in all keys: each is told, and no chord has more than the class keeps room for. */
public final class VoicingTest {
    private static final int ROOM = 20;
    // With the three calls that make a chord not more than an object is used for.
    private static final int CALLS_OF_OBJECT = 500;

    private static final Check check = new Check("VoicingTest");
    private static int most = 0;

    public static void main(String[] args) {
        for (int key = 0; key < 12; key++) {
            for (int bass = 36; bass < 60; bass++) {
                for (int figure : new int[] {5, 6, 64, 7}) {
                    compare(key, bass, figure);
                }
            }
        }
        check.due("the most voicings that a chord has", most, ROOM);
        check.end();
    }

    /** A chord in a new object; a wider span only adds voicings, so that the widest one has the most. */
    private static FiguredBasses chord(int key, int bass, int figure) {
        FiguredBasses x = new FiguredBasses();
        x.set(FiguredBasses.SPAN, 24);
        x.set(FiguredBasses.KEY, key);
        x.chord(0, bass, figure);
        return x;
    }

    private static void compare(int key, int bass, int figure) {
        String chord = "key " + key + ", " + bass + "/" + figure;
        FiguredBasses told = chord(key, bass, figure);
        FiguredBasses asked = chord(key, bass, figure);
        int calls = 0;
        int rank = 0;
        for (int tenor = 48; tenor <= 67; tenor++) {
            for (int alto = 53; alto <= 74; alto++) {
                for (int soprano = 58; soprano <= 79; soprano++) {
                    if (calls == CALLS_OF_OBJECT) {
                        asked = chord(key, bass, figure);
                        calls = 0;
                    }
                    calls++;
                    if (asked.ifVoiced(0, tenor, alto, soprano) == 0) {
                        check.due(chord + ": tenor of voicing " + rank, told.voicing(0, rank, 0), tenor);
                        check.due(chord + ": alto of voicing " + rank, told.voicing(0, rank, 1), alto);
                        check.due(chord + ": soprano of voicing " + rank, told.voicing(0, rank, 2), soprano);
                        rank++;
                    }
                }
            }
        }
        check.due(chord + ": voicings", told.of(0, 8), rank);
        check.due(chord + ": no more", told.voicing(0, rank, 0), FiguredBasses.NO_SUCH);
        most = Math.max(most, rank);
    }
}
