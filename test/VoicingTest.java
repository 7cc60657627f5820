/** All voicings of all chords in all keys: each is told, and no chord has more than the class keeps room for. */
public final class VoicingTest {
    private static final int ROOM = 20;

    private static final Check check = new Check("VoicingTest");
    private static int most = 0;

    public static void main(String[] args) {
        FiguredBasses x = new FiguredBasses();
        // A wider span only adds voicings: the widest one has the most.
        x.set(FiguredBasses.SPAN, 24);
        for (int key = 0; key < 12; key++) {
            x.set(FiguredBasses.KEY, key);
            for (int bass = 36; bass < 60; bass++) {
                for (int figure : new int[] {5, 6, 64, 7}) {
                    x.chord(0, bass, figure);
                    compare(x, "key " + key + ", " + bass + "/" + figure);
                    x.takeOut(0);
                }
            }
        }
        check.due("the most voicings that a chord has", most, ROOM);
        check.end();
    }

    private static void compare(FiguredBasses x, String chord) {
        int rank = 0;
        for (int tenor = 48; tenor <= 67; tenor++) {
            for (int alto = 53; alto <= 74; alto++) {
                for (int soprano = 58; soprano <= 79; soprano++) {
                    if (x.ifVoiced(0, tenor, alto, soprano) == 0) {
                        check.due(chord + ": tenor of voicing " + rank, x.voicing(0, rank, 0), tenor);
                        check.due(chord + ": alto of voicing " + rank, x.voicing(0, rank, 1), alto);
                        check.due(chord + ": soprano of voicing " + rank, x.voicing(0, rank, 2), soprano);
                        rank++;
                    }
                }
            }
        }
        check.due(chord + ": voicings", x.of(0, 8), rank);
        check.due(chord + ": no more", x.voicing(0, rank, 0), FiguredBasses.NO_SUCH);
        most = Math.max(most, rank);
    }
}
