/** Each promise by hand: ordinary inputs, the edges that the document names, and wrong inputs. */
public final class PromiseTest {
    private static final int NO_SUCH = -1, BAD_VALUE = -2, BAD_TEXT = -3, TOO_MANY = -4, NOT_POSSIBLE = -5, NONE = -6;
    private static final int[] WILD = {Integer.MIN_VALUE, -7, -6, -1, Integer.MAX_VALUE};

    private static final Check check = new Check("PromiseTest");

    public static void main(String[] args) {
        constants();
        promise1NewObject();
        promise2Set();
        promise3Chord();
        promise4TakeOut();
        promise5Voice();
        promise5OwnFaultsAtTheirEdges();
        promise5FaultsBehindAnotherChord();
        promise6Silence();
        promise7Transpose();
        promise8Realise();
        promise8GivenChords();
        promise9Read();
        promise10Of();
        promise11Voicing();
        promise12Count();
        promise13Parallel();
        promise14IfRealised();
        promise15Nearest();
        promise16IfVoiced();
        promise17Keys();
        promise18Put();
        promise19Wipe();
        promise20Fault();
        promise21Undo();
        promise22Save();
        promise23Restore();
        check.end();
    }

    private static void due(String what, long got, long want) {
        check.due(what, got, want);
    }

    /** A piece with one chord for each bass, all with the figure 5. */
    private static FiguredBasses triads(int... basses) {
        FiguredBasses x = new FiguredBasses();
        for (int i = 0; i < basses.length; i++) {
            x.chord(i, basses[i], 5);
        }
        return x;
    }

    private static long packed(String text) {
        long characters = 0;
        for (int i = 0; i < text.length(); i++) {
            characters = characters << 8 | text.charAt(i);
        }
        return characters;
    }

    private static FiguredBasses withPad(String text) {
        FiguredBasses x = new FiguredBasses();
        write(x, text);
        return x;
    }

    private static void write(FiguredBasses x, String text) {
        for (int i = 0; i < text.length(); i += 8) {
            x.put(packed(text.substring(i, Math.min(text.length(), i + 8))));
        }
    }

    private static void dueVoices(String what, FiguredBasses x, int chord, int tenor, int alto, int soprano) {
        due(what + ": tenor of " + chord, x.of(chord, 2), tenor);
        due(what + ": alto of " + chord, x.of(chord, 3), alto);
        due(what + ": soprano of " + chord, x.of(chord, 4), soprano);
    }

    private static void constants() {
        due("NO_SUCH", FiguredBasses.NO_SUCH, -1);
        due("BAD_VALUE", FiguredBasses.BAD_VALUE, -2);
        due("BAD_TEXT", FiguredBasses.BAD_TEXT, -3);
        due("TOO_MANY", FiguredBasses.TOO_MANY, -4);
        due("NOT_POSSIBLE", FiguredBasses.NOT_POSSIBLE, -5);
        due("NONE", FiguredBasses.NONE, -6);
        due("KEY", FiguredBasses.KEY, 0);
        due("SPAN", FiguredBasses.SPAN, 1);
        due("LEAP", FiguredBasses.LEAP, 2);
    }

    private static void promise1NewObject() {
        FiguredBasses x = new FiguredBasses();
        int[] first = {0, 0, 0, 0, 0, 0, 16, 7, NONE, 0, 0};
        for (int what = 0; what < first.length; what++) {
            due("new: count(" + what + ")", x.count(what), first[what]);
        }
        due("new: undo()", x.undo(), NOT_POSSIBLE);
        due("new: restore(0)", x.restore(0), NOT_POSSIBLE);
        due("new: restore(1)", x.restore(1), NOT_POSSIBLE);
        due("new: of(0, 0)", x.of(0, 0), NO_SUCH);
        due("new: fault()", x.fault(), 0);
    }

    private static void promise2Set() {
        FiguredBasses x = new FiguredBasses();
        int[] first = {0, 16, 7};
        int[] least = {0, 7, 1};
        int[] greatest = {11, 24, 12};
        for (int setting = 0; setting < 3; setting++) {
            due("set to the least", x.set(setting, least[setting]), first[setting]);
            due("set to the greatest", x.set(setting, greatest[setting]), least[setting]);
            due("set below", x.set(setting, least[setting] - 1), BAD_VALUE);
            due("set above", x.set(setting, greatest[setting] + 1), BAD_VALUE);
            due("a setting is kept", x.count(5 + setting), greatest[setting]);
            for (int value : WILD) {
                due("set(" + setting + ", " + value + ")", x.set(setting, value), BAD_VALUE);
                due("set(" + value + ", 8)", x.set(value, 8), BAD_VALUE);
            }
        }
        due("set(3, 8)", x.set(3, 8), BAD_VALUE);
        due("set is a change, an error is none", x.count(10), 6);
        due("set to the same", x.set(0, 11), 11);
        FiguredBasses y = new FiguredBasses();
        y.set(0, 0);
        due("set to the same is a change", y.count(10), 1);
    }

    private static void promise3Chord() {
        FiguredBasses x = new FiguredBasses();
        due("chord(1, 48, 5) of none", x.chord(1, 48, 5), NO_SUCH);
        due("chord(0, 36, 5)", x.chord(0, 36, 5), 1);
        due("chord(1, 59, 6)", x.chord(1, 59, 6), 2);
        due("chord(0, 48, 64)", x.chord(0, 48, 64), 3);
        due("chord(1, 50, 7)", x.chord(1, 50, 7), 4);
        int[] basses = {48, 50, 36, 59};
        int[] figures = {64, 7, 5, 6};
        for (int chord = 0; chord < 4; chord++) {
            due("bass " + chord, x.of(chord, 0), basses[chord]);
            due("figure " + chord, x.of(chord, 1), figures[chord]);
            due("without upper voices " + chord, x.of(chord, 2), NONE);
        }
        due("NO_SUCH before BAD_VALUE", x.chord(5, 0, 0), NO_SUCH);
        due("chord(-1, ..)", x.chord(-1, 48, 5), NO_SUCH);
        due("bass 35", x.chord(0, 35, 5), BAD_VALUE);
        due("bass 60", x.chord(0, 60, 5), BAD_VALUE);
        for (int figure : new int[] {0, 4, 8, 63, 65, -5, 10, 54, 46}) {
            due("figure " + figure, x.chord(0, 48, figure), BAD_VALUE);
        }
        for (int wild : WILD) {
            due("chord(" + wild + ", ..)", x.chord(wild, 48, 5), NO_SUCH);
            due("chord(0, " + wild + ", 5)", x.chord(0, wild, 5), BAD_VALUE);
            due("chord(0, 48, " + wild + ")", x.chord(0, 48, wild), BAD_VALUE);
        }
        due("chords", x.count(0), 4);
        due("changes", x.count(10), 4);
        for (int many = 5; many <= 10; many++) {
            due("one more chord", x.chord(many - 1, 40, 5), many);
        }
        due("BAD_VALUE before TOO_MANY", x.chord(10, 48, 1), BAD_VALUE);
        due("NO_SUCH before TOO_MANY", x.chord(11, 48, 5), NO_SUCH);
        due("an eleventh at the end", x.chord(10, 48, 5), TOO_MANY);
        due("an eleventh ahead", x.chord(0, 48, 5), TOO_MANY);
        due("still ten", x.count(0), 10);

        FiguredBasses y = triads(48, 50);
        y.voice(1, 53, 57, 65);
        y.chord(1, 55, 5);
        due("voices move along", y.of(2, 2), 53);
        due("none for the one that came", y.of(1, 2), NONE);
    }

    private static void promise4TakeOut() {
        FiguredBasses x = triads(36, 38, 40);
        x.voice(2, 52, 55, 59);
        due("takeOut(3)", x.takeOut(3), NO_SUCH);
        for (int wild : WILD) {
            due("takeOut(" + wild + ")", x.takeOut(wild), NO_SUCH);
        }
        due("takeOut(1)", x.takeOut(1), 2);
        due("the first stays", x.of(0, 0), 36);
        due("the last moves up", x.of(1, 0), 40);
        due("with its voices", x.of(1, 4), 59);
        due("it is no more", x.of(2, 0), NO_SUCH);
        due("takeOut(1)", x.takeOut(1), 1);
        due("takeOut(0)", x.takeOut(0), 0);
        due("takeOut(0) of none", x.takeOut(0), NO_SUCH);
        due("undo()", x.undo(), 5);
        due("it is back", x.of(0, 0), 36);
    }

    private static void promise5Voice() {
        FiguredBasses x = triads(48, 50);
        due("voice(0, 52, 55, 60)", x.voice(0, 52, 55, 60), 0);
        dueVoices("voice", x, 0, 52, 55, 60);
        due("voice(1, 53, 57, 62)", x.voice(1, 53, 57, 62), 96);
        due("voice(0, 0, 0, 0)", x.voice(0, 0, 0, 0), 9);
        due("voice(0, 99, 99, 99)", x.voice(0, 99, 99, 99), 13);
        dueVoices("all kept", x, 0, 99, 99, 99);
        due("voice(2, ..)", x.voice(2, 52, 55, 60), NO_SUCH);
        due("NO_SUCH before BAD_VALUE", x.voice(2, -1, 100, 60), NO_SUCH);
        for (int bad : new int[] {-1, 100, 128, Integer.MIN_VALUE, Integer.MAX_VALUE}) {
            due("tenor " + bad, x.voice(0, bad, 55, 60), BAD_VALUE);
            due("alto " + bad, x.voice(0, 52, bad, 60), BAD_VALUE);
            due("soprano " + bad, x.voice(0, 52, 55, bad), BAD_VALUE);
        }
        for (int wild : WILD) {
            due("voice(" + wild + ", ..)", x.voice(wild, 52, 55, 60), NO_SUCH);
        }
        dueVoices("errors change nothing", x, 0, 99, 99, 99);
        due("changes", x.count(10), 6);
    }

    private static void dueFaults(int key, int span, int[] chord, int tenor, int alto, int soprano, int want) {
        FiguredBasses x = new FiguredBasses();
        x.set(FiguredBasses.KEY, key);
        x.set(FiguredBasses.SPAN, span);
        x.chord(0, chord[0], chord[1]);
        String call = "key " + key + ", span " + span + ", " + chord[0] + "/" + chord[1] + "=" + tenor + "," + alto + "," + soprano;
        due(call, x.ifVoiced(0, tenor, alto, soprano), want);
        due(call, x.voice(0, tenor, alto, soprano), want);
        due(call, x.of(0, 6), want);
    }

    private static void promise5OwnFaultsAtTheirEdges() {
        int[] c = {48, 5};
        // Fault 0: ranges.
        dueFaults(8, 16, new int[] {44, 5}, 48, 56, 63, 0);
        dueFaults(4, 16, new int[] {40, 5}, 47, 56, 59, 1);
        dueFaults(0, 16, c, 67, 72, 76, 0);
        dueFaults(8, 16, new int[] {44, 5}, 68, 72, 75, 1);
        dueFaults(5, 16, new int[] {45, 6}, 48, 53, 60, 0);
        dueFaults(0, 16, new int[] {43, 64}, 48, 52, 60, 1);
        dueFaults(7, 16, new int[] {47, 6}, 67, 74, 79, 0);
        dueFaults(3, 16, new int[] {46, 64}, 67, 75, 79, 1);
        dueFaults(10, 16, new int[] {46, 5}, 50, 53, 58, 0);
        dueFaults(5, 16, new int[] {41, 5}, 48, 53, 57, 1);
        dueFaults(8, 24, new int[] {48, 6}, 63, 72, 80, 1);
        // Fault 0: not above the next lower voice.
        dueFaults(0, 16, c, 48, 55, 64, 1);
        dueFaults(0, 16, new int[] {52, 6}, 48, 55, 60, 1);
        dueFaults(0, 16, c, 55, 55, 64, 1);
        dueFaults(0, 16, c, 60, 55, 64, 1);
        dueFaults(0, 16, c, 55, 64, 64, 1);
        dueFaults(0, 16, c, 55, 67, 64, 1);
        // Fault 1: 12 is not too much, 13 and more is; the span of the outer ones.
        dueFaults(0, 24, c, 52, 64, 67, 0);
        dueFaults(0, 24, c, 52, 67, 72, 2);
        dueFaults(0, 16, c, 52, 55, 67, 0);
        dueFaults(0, 24, c, 52, 55, 72, 2);
        dueFaults(0, 15, c, 52, 60, 67, 0);
        dueFaults(0, 14, c, 52, 60, 67, 2);
        dueFaults(0, 24, new int[] {55, 7}, 59, 65, 78, 2 + 4 + 8);
        // Fault 2: a tone that is not of the chord.
        dueFaults(0, 16, c, 53, 55, 64, 4);
        dueFaults(0, 16, c, 52, 57, 67, 4);
        dueFaults(0, 16, c, 52, 55, 62, 4);
        dueFaults(0, 16, new int[] {49, 5}, 53, 56, 61, 4);
        // Fault 3: a tone that is missing; a chord with 7 has four.
        dueFaults(0, 16, c, 55, 60, 67, 8);
        dueFaults(0, 16, c, 53, 57, 60, 12);
        dueFaults(0, 16, new int[] {55, 7}, 59, 62, 65, 0);
        dueFaults(0, 16, new int[] {55, 7}, 59, 65, 67, 8);
        // Fault 4: the leading tone twice, with the bass or without it.
        dueFaults(0, 16, new int[] {43, 5}, 59, 62, 71, 16);
        dueFaults(0, 16, new int[] {47, 6}, 62, 67, 71, 16);
        dueFaults(0, 16, new int[] {43, 5}, 59, 62, 67, 0);
        dueFaults(0, 16, new int[] {49, 5}, 59, 62, 71, 4 + 16);
        dueFaults(2, 16, new int[] {45, 5}, 61, 64, 73, 16);
    }

    /** The faults of a second chord with these notes, bass first, behind a chord with those; both with figures. */
    private static void dueBehind(int[] first, int[] second, int leap, int want, int fifths, int unisons) {
        FiguredBasses x = new FiguredBasses();
        x.set(FiguredBasses.LEAP, leap);
        x.chord(0, first[0], first[1]);
        x.chord(1, second[0], second[1]);
        x.voice(0, first[2], first[3], first[4]);
        String call = second[0] + "/" + second[1] + "=" + second[2] + "," + second[3] + "," + second[4];
        due("ifVoiced " + call, x.ifVoiced(1, second[2], second[3], second[4]), want);
        due("voice " + call, x.voice(1, second[2], second[3], second[4]), want);
        due("of " + call, x.of(1, 6), want);
        due("parallel fifths " + call, x.parallel(1, 5), fifths);
        due("parallel unisons " + call, x.parallel(1, 6), unisons);
    }

    private static void promise5FaultsBehindAnotherChord() {
        // Fifths and octaves with the bass.
        dueBehind(new int[] {48, 5, 52, 55, 60}, new int[] {50, 5, 53, 57, 62}, 7, 96, 2, 3);
        // Fifths of the tenor and the soprano over a bass that stays.
        dueBehind(new int[] {48, 5, 60, 64, 67}, new int[] {48, 64, 65, 69, 72}, 7, 32, 7, NONE);
        // The same voices stay: no fault. Only one of two moves, by an octave: none either.
        dueBehind(new int[] {48, 5, 60, 64, 67}, new int[] {48, 5, 60, 64, 67}, 7, 0, NONE, NONE);
        dueBehind(new int[] {48, 5, 52, 55, 60}, new int[] {36, 5, 52, 55, 60}, 7, 0, NONE, NONE);
        // A fifth into a twelfth counts; a fourth turned into a fifth does not.
        dueBehind(new int[] {48, 5, 52, 55, 64}, new int[] {41, 5, 53, 60, 69}, 7, 32, 2, NONE);
        dueBehind(new int[] {48, 5, 55, 60, 64}, new int[] {53, 5, 57, 60, 65}, 7, 0, NONE, NONE);
        // Voices that cross: the upper one is the one named later, not the one that sounds above.
        dueBehind(new int[] {48, 5, 67, 60, 64}, new int[] {48, 64, 69, 62, 65}, 7, 1 + 4, NONE, NONE);
        dueBehind(new int[] {48, 5, 64, 59, 70}, new int[] {48, 64, 65, 60, 69}, 7, 1 + 32, 6, NONE);
        // A unison of two upper voices, both moving.
        dueBehind(new int[] {48, 5, 60, 64, 64}, new int[] {48, 64, 60, 65, 65}, 7, 1 + 8 + 64, NONE, 11);
        // Leaps up and down, at LEAP and above it; the bass may leap.
        dueBehind(new int[] {48, 5, 55, 60, 64}, new int[] {36, 5, 60, 64, 67}, 5, 0, NONE, NONE);
        dueBehind(new int[] {48, 5, 55, 60, 64}, new int[] {36, 5, 60, 64, 67}, 4, 128, NONE, NONE);
        dueBehind(new int[] {48, 5, 60, 64, 67}, new int[] {36, 5, 55, 60, 64}, 5, 0, NONE, NONE);
        dueBehind(new int[] {48, 5, 60, 64, 67}, new int[] {36, 5, 55, 60, 64}, 4, 128, NONE, NONE);
        // The leading tone in each upper voice rises by 1, or does not.
        dueBehind(new int[] {55, 5, 59, 62, 67}, new int[] {48, 5, 60, 64, 67}, 7, 0, NONE, NONE);
        dueBehind(new int[] {55, 5, 59, 62, 67}, new int[] {48, 5, 55, 64, 67}, 7, 256, NONE, NONE);
        dueBehind(new int[] {43, 5, 50, 55, 59}, new int[] {48, 5, 52, 55, 64}, 7, 256, NONE, NONE);
        dueBehind(new int[] {43, 5, 55, 59, 62}, new int[] {48, 5, 52, 55, 64}, 7, 256, NONE, NONE);
        // It need not where the tonic is not of the chord, nor in the bass.
        dueBehind(new int[] {43, 5, 55, 59, 62}, new int[] {52, 5, 55, 59, 64}, 7, 0, NONE, NONE);
        dueBehind(new int[] {47, 6, 55, 62, 67}, new int[] {36, 5, 55, 60, 64}, 7, 0, NONE, NONE);
        dueBehind(new int[] {43, 5, 55, 59, 62}, new int[] {49, 5, 52, 55, 60}, 7, 4, NONE, NONE);
        // The tonic is of chords on other steps, too.
        dueBehind(new int[] {43, 5, 55, 59, 62}, new int[] {45, 5, 52, 57, 60}, 7, 256, NONE, NONE);
    }

    private static void promise6Silence() {
        FiguredBasses x = triads(48, 50, 52);
        x.voice(0, 52, 55, 60);
        x.voice(2, 55, 59, 64);
        due("silence(1)", x.silence(1), NOT_POSSIBLE);
        due("silence(3)", x.silence(3), NO_SUCH);
        for (int wild : WILD) {
            due("silence(" + wild + ")", x.silence(wild), NO_SUCH);
        }
        due("changes", x.count(10), 5);
        due("silence(0)", x.silence(0), 1);
        due("changes", x.count(10), 6);
        due("no tenor", x.of(0, 2), NONE);
        due("silence(0) again", x.silence(0), NOT_POSSIBLE);
        due("silence(2)", x.silence(2), 0);
        due("undo()", x.undo(), 5);
        dueVoices("undone", x, 2, 55, 59, 64);
    }

    private static void promise7Transpose() {
        FiguredBasses x = triads(48, 47);
        x.voice(0, 52, 55, 60);
        due("transpose(11)", x.transpose(11), 11);
        due("bass", x.of(0, 0), 59);
        due("bass", x.of(1, 0), 58);
        dueVoices("transpose", x, 0, 63, 66, 71);
        due("transpose(1)", x.transpose(1), NOT_POSSIBLE);
        due("transpose(-12)", x.transpose(-12), 11);
        due("transpose(-10)", x.transpose(-10), 1);
        due("bass", x.of(1, 0), 36);
        due("transpose(-1)", x.transpose(-1), NOT_POSSIBLE);
        due("transpose(0)", x.transpose(0), 1);
        due("changes", x.count(10), 6);
        due("transpose(13)", x.transpose(13), BAD_VALUE);
        due("transpose(-13)", x.transpose(-13), BAD_VALUE);
        due("transpose(MAX)", x.transpose(Integer.MAX_VALUE), BAD_VALUE);
        due("transpose(MIN)", x.transpose(Integer.MIN_VALUE), BAD_VALUE);
        due("key", x.count(5), 1);
        for (int voice = 0; voice < 3; voice++) {
            FiguredBasses y = triads(48);
            y.voice(0, voice == 0 ? 97 : 50, voice == 1 ? 97 : 50, voice == 2 ? 97 : 50);
            due("a voice to 100", y.transpose(3), NOT_POSSIBLE);
            due("a voice to 99", y.transpose(2), 2);
            y.voice(0, voice == 0 ? 2 : 50, voice == 1 ? 2 : 50, voice == 2 ? 2 : 50);
            due("a voice to -1", y.transpose(-3), NOT_POSSIBLE);
            due("a voice to 0", y.transpose(-2), 0);
            due("it is 0", y.of(0, 2 + voice), 0);
        }
        FiguredBasses empty = new FiguredBasses();
        due("transpose(-12) of none", empty.transpose(-12), 0);
        due("transpose(-5) of none", empty.transpose(-5), 7);
        due("transpose(12) of none", empty.transpose(12), 7);
        due("three changes", empty.count(10), 3);
    }

    private static void promise8Realise() {
        FiguredBasses x = new FiguredBasses();
        due("realise() of none", x.realise(), NOT_POSSIBLE);
        due("no change", x.count(10), 0);
        x.chord(0, 48, 5);
        due("realise() of one", x.realise(), 0);
        dueVoices("the first voicing", x, 0, 52, 55, 60);
        due("a change", x.count(10), 2);
        due("realise() again", x.realise(), 0);
        due("a change, too", x.count(10), 3);
        due("undo()", x.undo(), 2);
        due("undo()", x.undo(), 1);
        due("no voices", x.of(0, 2), NONE);

        FiguredBasses cadence = triads(48, 53, 55, 48);
        due("realise()", cadence.realise(), 12);
        dueVoices("cadence", cadence, 0, 60, 64, 67);
        due("costs", cadence.count(4), 12);
        due("no faults", cadence.count(2), 0);

        FiguredBasses strange = triads(48, 49);
        due("a bass that is not on the scale", strange.realise(), NOT_POSSIBLE);
        due("nothing given", strange.count(1), 0);
        due("no change", strange.count(10), 2);
    }

    private static void promise8GivenChords() {
        // Two given chords with faults do not matter; their costs count.
        FiguredBasses x = triads(48, 50);
        x.voice(0, 52, 55, 60);
        due("parallels", x.voice(1, 53, 57, 62), 96);
        due("realise() of given chords", x.realise(), 5);
        due("a change", x.count(10), 5);
        dueVoices("as given", x, 1, 53, 57, 62);
        // A given chord that is not of the scale, and far away, does not matter alone either.
        FiguredBasses y = triads(49, 48);
        y.voice(0, 0, 0, 0);
        due("out of reach", y.realise(), NOT_POSSIBLE);
        due("no change", y.count(10), 3);
        y.voice(0, 53, 56, 61);
        due("within reach", y.realise(), 9);
        dueVoices("the nearest without parallels", y, 1, 55, 60, 64);
        // A chord behind a new voicing must not have the faults 5 to 8, but may have others.
        FiguredBasses z = triads(48, 48);
        due("a chord that lacks a tone", z.voice(1, 55, 60, 67), 8);
        due("realise()", z.realise(), 3);
        dueVoices("of two that cost as much the one sorted ahead", z, 0, 52, 60, 67);
        z.silence(0);
        z.set(FiguredBasses.LEAP, 2);
        due("leaps of 2 only", z.realise(), NOT_POSSIBLE);
        z.set(FiguredBasses.LEAP, 3);
        due("leaps of 3", z.realise(), 3);
    }

    private static void promise9Read() {
        FiguredBasses x = withPad("36;59/6=0,99,10;48/64;50/7=52,55,60;40/5");
        x.set(FiguredBasses.KEY, 3);
        x.chord(0, 48, 5);
        due("read()", x.read(), 5);
        int[] basses = {36, 59, 48, 50, 40};
        int[] figures = {5, 6, 64, 7, 5};
        for (int chord = 0; chord < 5; chord++) {
            due("read bass " + chord, x.of(chord, 0), basses[chord]);
            due("read figure " + chord, x.of(chord, 1), figures[chord]);
        }
        due("with voices", x.count(1), 2 + 8);
        dueVoices("read", x, 1, 0, 99, 10);
        dueVoices("read", x, 3, 52, 55, 60);
        due("the pad is empty", x.count(9), 0);
        due("the key stays", x.count(5), 3);
        due("a change", x.count(10), 3);
        due("read() of nothing", x.read(), BAD_TEXT);
        due("undo()", x.undo(), 2);
        due("one chord", x.count(0), 1);
        due("the pad stays empty", x.count(9), 0);

        dueRead("36;36;36;36;36;36;36;36;36;36", 10);
        dueRead("36;36;36;36;36;36;36;36;36;36;36", TOO_MANY);
        dueRead("1;1;1;1;1;1;1;1;1;1;1", TOO_MANY);
        dueRead("1;1;1;1;1;1;1;1;1;1;x", BAD_TEXT);
        dueRead("36;35", BAD_VALUE);
        dueRead("60;36", BAD_VALUE);
        dueRead("0", BAD_VALUE);
        dueRead("36;36;36;36;36;36;36;36;36;60", BAD_VALUE);
        dueRead("35/8", BAD_TEXT);
        dueRead("36;", BAD_TEXT);
        dueRead("36=1,2", BAD_TEXT);
    }

    private static void dueRead(String text, int want) {
        FiguredBasses x = withPad(text);
        x.chord(0, 50, 7);
        due("read() of " + text, x.read(), want);
        due("chords after " + text, x.count(0), want < 0 ? 1 : want);
        due("pad after " + text, x.count(9), want < 0 ? text.length() : 0);
        due("changes after " + text, x.count(10), want < 0 ? 1 : 2);
    }

    private static void promise10Of() {
        FiguredBasses x = new FiguredBasses();
        x.chord(0, 48, 5);
        x.chord(1, 55, 7);
        x.chord(2, 49, 6);
        x.chord(3, 50, 64);
        x.voice(0, 52, 55, 60);
        x.voice(1, 53, 59, 62);
        int[][] want = {
            {48, 5, 52, 55, 60, 145, 0, 0, 14, 0},
            {55, 7, 53, 59, 62, 1 << 7 | 1 << 11 | 1 << 2 | 1 << 5, 1, 7, x.of(1, 8), 4},
            {49, 6, NONE, NONE, NONE, 0, 0, 0, 0, NONE},
            {50, 64, NONE, NONE, NONE, 1 << 2 | 1 << 7 | 1 << 11, 0, 0, x.of(3, 8), 1}};
        for (int chord = 0; chord < want.length; chord++) {
            for (int what = 0; what < want[chord].length; what++) {
                due("of(" + chord + ", " + what + ")", x.of(chord, what), want[chord][what]);
            }
            due("of(" + chord + ", 10)", x.of(chord, 10), BAD_VALUE);
            for (int wild : WILD) {
                due("of(" + chord + ", " + wild + ")", x.of(chord, wild), BAD_VALUE);
            }
        }
        due("NO_SUCH before BAD_VALUE", x.of(4, 10), NO_SUCH);
        for (int wild : WILD) {
            due("of(" + wild + ", 0)", x.of(wild, 0), NO_SUCH);
        }
        dueSteps();
        FiguredBasses far = triads(48, 48);
        far.voice(0, 0, 99, 50);
        far.voice(1, 99, 0, 49);
        due("a cost far away", far.of(1, 7), 199);
        due("the first one has no cost", far.of(0, 7), 0);
    }

    private static void dueSteps() {
        int[] scale = {0, 2, 4, 5, 7, 9, 11};
        for (int key = 0; key < 12; key++) {
            FiguredBasses x = new FiguredBasses();
            x.set(FiguredBasses.KEY, key);
            x.chord(0, 36, 6);
            for (int step = 0; step < 7; step++) {
                int bass = 36 + (key + scale[step]) % 12;
                x.chord(0, bass, 6);
                due("step of " + bass + " in " + key, x.of(0, 9), step);
                int tones = 0;
                for (int up : new int[] {0, 2, 5}) {
                    tones |= 1 << (key + scale[(step + up) % 7]) % 12;
                }
                due("tones of " + bass + "/6 in " + key, x.of(0, 5), tones);
            }
        }
    }

    private static void promise11Voicing() {
        FiguredBasses x = triads(48, 49);
        int many = x.of(0, 8);
        due("voicings", many, 14);
        int[][] known = {{52, 55, 60}, {52, 55, 64}, {52, 55, 67}, {52, 60, 67}, {52, 64, 67}};
        for (int rank = 0; rank < known.length; rank++) {
            for (int what = 0; what < 3; what++) {
                due("voicing(0, " + rank + ", " + what + ")", x.voicing(0, rank, what), known[rank][what]);
            }
        }
        long before = -1;
        for (int rank = 0; rank < many; rank++) {
            int tenor = x.voicing(0, rank, 0);
            int alto = x.voicing(0, rank, 1);
            int soprano = x.voicing(0, rank, 2);
            long order = tenor * 10000L + alto * 100L + soprano;
            check.holds("sorted at " + rank, order > before);
            before = order;
            due("no faults at " + rank, x.ifVoiced(0, tenor, alto, soprano), 0);
        }
        due("rank 14", x.voicing(0, many, 0), NO_SUCH);
        due("rank before what", x.voicing(0, many, 3), NO_SUCH);
        due("what 3", x.voicing(0, 0, 3), BAD_VALUE);
        due("none", x.voicing(1, 0, 0), NO_SUCH);
        due("chord 2", x.voicing(2, 0, 0), NO_SUCH);
        for (int wild : WILD) {
            due("chord " + wild, x.voicing(wild, 0, 0), NO_SUCH);
            due("rank " + wild, x.voicing(0, wild, 0), NO_SUCH);
            due("what " + wild, x.voicing(0, 0, wild), BAD_VALUE);
        }
        due("no voicing is given", x.count(1), 0);
        x.voice(0, 99, 99, 99);
        due("a chord with voices has voicings, too", x.voicing(0, 0, 0), 52);
    }

    private static void promise12Count() {
        FiguredBasses x = triads(48, 50, 52);
        x.set(FiguredBasses.KEY, 0);
        x.set(FiguredBasses.SPAN, 20);
        x.set(FiguredBasses.LEAP, 3);
        x.voice(0, 52, 55, 60);
        x.voice(1, 53, 57, 62);
        x.put(packed("48;"));
        int[] want = {3, 3, 2, 2, 5, 0, 20, 3, 62, 3, 6};
        for (int what = 0; what < want.length; what++) {
            due("count(" + what + ")", x.count(what), want[what]);
        }
        due("count(11)", x.count(11), BAD_VALUE);
        for (int wild : WILD) {
            due("count(" + wild + ")", x.count(wild), BAD_VALUE);
        }
        x.voice(2, 0, 0, 0);
        due("all of a chord's faults", x.count(3), 2 + Integer.bitCount(x.of(2, 6)));
        due("chords with faults", x.count(2), 6);
        due("costs", x.count(4), 5 + 53 + 57 + 62);
        due("the highest soprano is not the last one", x.count(8), 62);
        x.silence(1);
        due("no costs across a chord without voices", x.count(4), 0);
        due("no faults behind a chord without voices", x.of(2, 6) & 480, 0);
        x.voice(0, 55, 60, 67);
        due("a fault of the chord 0", x.count(2), 1 + 4);
        due("it counts", x.count(3), 1 + Integer.bitCount(x.of(2, 6)));
        x.silence(0);
        due("a soprano of 0", x.count(8), 0);
    }

    private static void promise13Parallel() {
        FiguredBasses x = triads(48, 50, 52);
        x.voice(0, 52, 55, 60);
        due("ahead has no chord", x.parallel(0, 5), NONE);
        due("no voices", x.parallel(1, 5), NONE);
        x.voice(1, 53, 57, 62);
        due("parallel(1, 5)", x.parallel(1, 5), 2);
        due("parallel(1, 6)", x.parallel(1, 6), 3);
        x.voice(2, 55, 59, 64);
        due("parallel(2, 5)", x.parallel(2, 5), 2);
        due("kind 4", x.parallel(1, 4), BAD_VALUE);
        due("kind 7", x.parallel(1, 7), BAD_VALUE);
        due("NO_SUCH before BAD_VALUE", x.parallel(3, 7), NO_SUCH);
        for (int wild : WILD) {
            due("parallel(" + wild + ", 5)", x.parallel(wild, 5), NO_SUCH);
            due("parallel(1, " + wild + ")", x.parallel(1, wild), BAD_VALUE);
        }
        x.silence(1);
        due("ahead has no voices", x.parallel(2, 5), NONE);
        // Each pair of voices alone: the two move by 1, the others stay or are no fifth.
        for (int lower = 0; lower < 3; lower++) {
            for (int upper = lower + 1; upper < 4; upper++) {
                duePair(lower, upper, 5, 7);
                duePair(lower, upper, 6, 12);
            }
        }
    }

    private static void duePair(int lower, int upper, int kind, int interval) {
        int[] first = {40, 51, 61, 64};
        first[upper] = first[lower] + interval;
        int[] second = first.clone();
        second[lower]++;
        second[upper]++;
        FiguredBasses x = triads(first[0], second[0]);
        x.voice(0, first[1], first[2], first[3]);
        x.voice(1, second[1], second[2], second[3]);
        due("kind " + kind + " of " + lower + " and " + upper, x.parallel(1, kind), 4 * lower + upper);
        due("fault " + kind, x.of(1, 6) & 96, 1 << kind);
    }

    private static void promise14IfRealised() {
        FiguredBasses x = new FiguredBasses();
        due("ifRealised() of none", x.ifRealised(), NOT_POSSIBLE);
        x.chord(0, 48, 5);
        x.chord(1, 53, 5);
        x.chord(2, 55, 5);
        x.chord(3, 48, 5);
        due("ifRealised()", x.ifRealised(), 12);
        due("nothing changes", x.count(1), 0);
        due("no change", x.count(10), 4);
        x.chord(2, 49, 5);
        due("a bass that is not on the scale", x.ifRealised(), NOT_POSSIBLE);
    }

    private static void promise15Nearest() {
        FiguredBasses x = triads(43, 48, 48, 49);
        due("chord 0", x.nearest(0, 0), NOT_POSSIBLE);
        due("ahead without voices", x.nearest(1, 0), NOT_POSSIBLE);
        x.voice(0, 50, 55, 59);
        due("tenor", x.nearest(1, 0), 52);
        due("alto", x.nearest(1, 1), 55);
        due("soprano", x.nearest(1, 2), 60);
        due("cost", x.nearest(1, 3), 3);
        due("BAD_VALUE before NOT_POSSIBLE", x.nearest(0, 4), BAD_VALUE);
        due("NO_SUCH before BAD_VALUE", x.nearest(4, 4), NO_SUCH);
        for (int wild : WILD) {
            due("nearest(" + wild + ", 0)", x.nearest(wild, 0), NO_SUCH);
            due("nearest(1, " + wild + ")", x.nearest(1, wild), BAD_VALUE);
        }
        x.voice(1, 52, 55, 60);
        due("the same again", x.nearest(2, 3), 0);
        x.voice(2, 53, 57, 60);
        for (int what = 0; what < 4; what++) {
            due("no chord", x.nearest(3, what), NONE);
        }
        x.voice(1, 0, 0, 0);
        due("too far away", x.nearest(2, 3), NONE);
        x.voice(2, 99, 99, 99);
        due("its own voices do not matter", x.nearest(1, 3), 3);
        due("nothing changes", x.of(1, 2), 0);

        FiguredBasses y = triads(48, 48);
        y.voice(0, 55, 60, 67);
        due("of 52,60,67 and 55,60,64 the first one", y.nearest(1, 0), 52);
        due("that cost as much", y.nearest(1, 3), 3);
    }

    private static void promise16IfVoiced() {
        FiguredBasses x = triads(48, 50);
        x.voice(0, 52, 55, 60);
        due("ifVoiced", x.ifVoiced(1, 53, 57, 62), 96);
        due("ifVoiced", x.ifVoiced(0, 55, 60, 67), 8);
        due("nothing changes", x.of(1, 2), NONE);
        dueVoices("nothing changes", x, 0, 52, 55, 60);
        due("no change", x.count(10), 3);
        due("NO_SUCH before BAD_VALUE", x.ifVoiced(2, 100, 0, 0), NO_SUCH);
        for (int bad : new int[] {-1, 100, Integer.MIN_VALUE, Integer.MAX_VALUE}) {
            due("tenor " + bad, x.ifVoiced(0, bad, 55, 60), BAD_VALUE);
            due("alto " + bad, x.ifVoiced(0, 52, bad, 60), BAD_VALUE);
            due("soprano " + bad, x.ifVoiced(0, 52, 55, bad), BAD_VALUE);
        }
        due("0 and 99 are notes", x.ifVoiced(1, 0, 99, 0), x.ifVoiced(1, 0, 99, 0) | 7);
    }

    private static void promise17Keys() {
        FiguredBasses x = new FiguredBasses();
        due("keys() without chords", x.keys(), 4095);
        x.chord(0, 48, 5);
        int ofC = 1 << 0 | 1 << 1 | 1 << 3 | 1 << 5 | 1 << 7 | 1 << 8 | 1 << 10;
        due("keys() of 48", x.keys(), ofC);
        x.chord(1, 59, 5);
        due("keys() of 48 and 59", x.keys(), 1 << 0 | 1 << 7);
        x.set(FiguredBasses.KEY, 5);
        due("whatever the key is", x.keys(), 1 << 0 | 1 << 7);
        x.chord(2, 54, 5);
        due("keys() of 48, 59, 54", x.keys(), 1 << 7);
        x.chord(1, 49, 5);
        due("no key", x.keys(), 0);
    }

    private static void promise18Put() {
        FiguredBasses x = new FiguredBasses();
        due("one character", x.put('5'), 1);
        due("two", x.put(packed("9/")), 3);
        due("in their order", x.fault(), 3);
        due("the rest", x.put(packed("64=1,2,3")), 11);
        due("read", x.read(), 1);
        due("bass", x.of(0, 0), 59);
        dueVoices("read", x, 0, 1, 2, 3);
        due("none", x.put(0), BAD_VALUE);
        for (long code : new long[] {1, 32, 127, 128, 255}) {
            due("code " + code, x.put(code), BAD_VALUE);
            due("code " + code + " first", x.put(code << 56 | packed("1234567")), BAD_VALUE);
            due("code " + code + " last", x.put(packed("1234567") << 8 | code), BAD_VALUE);
        }
        due("a gap", x.put(packed("1") << 16 | packed("1")), BAD_VALUE);
        due("a gap at the end", x.put(packed("1") << 8), BAD_VALUE);
        due("a bit far above", x.put(1L << 63 | packed("1")), BAD_VALUE);
        due("a bit above a gap", x.put(1L << 63 | packed("123456")), BAD_VALUE);
        due("MIN", x.put(Long.MIN_VALUE), BAD_VALUE);
        due("MAX", x.put(Long.MAX_VALUE), BAD_VALUE);
        due("nothing was put", x.count(9), 0);
        due("33", x.put(33), 1);
        due("126", x.put(126), 2);
        x.wipe();
        for (int length = 8; length <= 72; length += 8) {
            due("eight more", x.put(packed("12345678")), length);
        }
        due("seven more", x.put(packed("1234567")), 79);
        due("two too many", x.put(packed("12")), TOO_MANY);
        due("BAD_VALUE before TOO_MANY", x.put(packed("1 ")), BAD_VALUE);
        due("the last one", x.put(packed("1")), 80);
        due("one too many", x.put(packed("1")), TOO_MANY);
        due("length", x.count(9), 80);
        due("put is no change", x.count(10), 1);
    }

    private static void promise19Wipe() {
        FiguredBasses x = new FiguredBasses();
        due("wipe() of nothing", x.wipe(), 0);
        x.put(packed("48;50"));
        due("wipe()", x.wipe(), 5);
        due("length", x.count(9), 0);
        due("wipe() again", x.wipe(), 0);
        due("no change", x.count(10), 0);
        x.put(packed("50"));
        due("only the new text is read", x.read(), 1);
    }

    private static void promise20Fault() {
        String[] good = {"48", "0", "9", "99", "10/5", "10/6", "10/64", "10/7", "1=2,3,4", "1/6=0,99,10", "1;2;3",
            "48/64=52,55,60;0/5;7=1,1,1", "36;59/6=0,99,10"};
        for (String text : good) {
            FiguredBasses x = withPad(text);
            due("fault of " + text, x.fault(), NONE);
            due("the pad stays", x.count(9), text.length());
        }
        // Each text with the index of its fault; an index at its end means that it ends too early.
        String[] bad = {"", "48;", "48/", "48=", "48=1", "48=1,", "48=1,2", "48=1,2,", "48/6=", "48;50;"};
        for (String text : bad) {
            due("fault of " + text, withPad(text).fault(), text.length());
        }
        dueFault("x", 0);
        dueFault(";", 0);
        dueFault("/5", 0);
        dueFault("00", 1);
        dueFault("05", 1);
        dueFault("100", 2);
        dueFault("48,", 2);
        dueFault("48;;", 3);
        dueFault("48/4", 3);
        dueFault("48/8", 3);
        dueFault("48/;", 3);
        dueFault("48/=1,2,3", 3);
        dueFault("48/54", 4);
        dueFault("48/65", 4);
        dueFault("48/66", 4);
        dueFault("48/74", 4);
        dueFault("48/644", 5);
        dueFault("48/6/6", 4);
        dueFault("48=;", 3);
        dueFault("48=,1,2", 3);
        dueFault("48=1;2,3", 4);
        dueFault("48=1,2;3", 6);
        dueFault("48=1,2=3", 6);
        dueFault("48=100,2,3", 5);
        dueFault("48=1,00,3", 6);
        dueFault("48=1,2,300", 9);
        dueFault("48=1,2,3,4", 8);
        dueFault("48=1,2,3/6", 8);
        dueFault("48=1,2,3=1", 8);
        dueFault("48=1,2,3;x;y", 9);
        dueFault("48!", 2);
        dueFault("48:50", 2);
        dueFault("4~", 1);
        String longest = "48/64=52,55,60;48/64=52,55,60;48/64=52,55,60;48/64=52,55,60;48/64=52,55,60;48/64";
        due("a text of 80", longest.length(), 80);
        due("fault of a text of 80", withPad(longest).fault(), NONE);
        due("fault of 80 that end too early", withPad(longest.substring(0, 79) + "=").fault(), 80);
        due("fault of the last of 80", withPad(longest.substring(0, 79) + "x").fault(), 79);
        due("fault of 80 that end too early", withPad(longest.substring(0, 75) + "48=1,").fault(), 80);
    }

    private static void dueFault(String text, int want) {
        due("fault of " + text, withPad(text).fault(), want);
    }

    private static void promise21Undo() {
        FiguredBasses x = new FiguredBasses();
        for (int many = 1; many <= 8; many++) {
            x.chord(many - 1, 40 + many, 5);
            due("recorded", x.count(10), Math.min(6, many));
        }
        for (int left = 5; left >= 0; left--) {
            due("undo()", x.undo(), left);
            due("chords", x.count(0), left + 2);
        }
        due("no more", x.undo(), NOT_POSSIBLE);
        due("two chords stay", x.count(0), 2);
        due("the last of them", x.of(1, 0), 42);

        FiguredBasses y = triads(48);
        y.set(FiguredBasses.KEY, 7);
        y.voice(0, 52, 55, 60);
        y.transpose(-1);
        y.put(packed("48"));
        y.save(0);
        due("undo() of transpose", y.undo(), 3);
        due("key", y.count(5), 7);
        due("bass", y.of(0, 0), 48);
        dueVoices("undone", y, 0, 52, 55, 60);
        due("the pad stays", y.count(9), 2);
        due("undo() of voice", y.undo(), 2);
        due("no voices", y.of(0, 2), NONE);
        due("undo() of set", y.undo(), 1);
        due("key", y.count(5), 0);
        due("a slot stays", y.restore(0), 1);
        due("recorded behind what is left", y.count(10), 2);
        due("key of the slot", y.count(5), 6);
        due("undo() of restore", y.undo(), 1);
        due("key", y.count(5), 0);
        due("undo() of chord", y.undo(), 0);
        due("no chords", y.count(0), 0);
    }

    private static void promise22Save() {
        FiguredBasses x = triads(48, 50);
        due("save(0)", x.save(0), 2);
        due("save is no change", x.count(10), 2);
        x.takeOut(0);
        due("save(1)", x.save(1), 1);
        x.takeOut(0);
        due("restore(0)", x.restore(0), 2);
        due("restore(1)", x.restore(1), 1);
        due("bass", x.of(0, 0), 50);
        due("save over it", x.save(0), 1);
        due("restore(0)", x.restore(0), 1);
        due("save(2)", x.save(2), BAD_VALUE);
        for (int wild : WILD) {
            due("save(" + wild + ")", x.save(wild), BAD_VALUE);
            due("restore(" + wild + ")", x.restore(wild), BAD_VALUE);
        }
        due("save() without chords", new FiguredBasses().save(1), 0);
    }

    private static void promise23Restore() {
        FiguredBasses x = triads(48);
        x.set(FiguredBasses.KEY, 7);
        x.set(FiguredBasses.SPAN, 20);
        x.set(FiguredBasses.LEAP, 3);
        x.voice(0, 52, 55, 60);
        x.save(1);
        due("the other slot", x.restore(0), NOT_POSSIBLE);
        due("restore(2)", x.restore(2), BAD_VALUE);
        due("changes", x.count(10), 5);
        x.put(packed("50/7"));
        x.read();
        x.put(packed("1"));
        x.set(FiguredBasses.KEY, 1);
        for (int time = 0; time < 2; time++) {
            due("restore(1)", x.restore(1), 1);
            due("bass", x.of(0, 0), 48);
            due("figure", x.of(0, 1), 5);
            dueVoices("restored", x, 0, 52, 55, 60);
            due("key", x.count(5), 7);
            due("span", x.count(6), 20);
            due("leap", x.count(7), 3);
            due("the pad stays", x.count(9), 1);
            due("a change", x.count(10), 6);
            x.takeOut(0);
        }
        x.undo();
        due("undo() of restore", x.undo(), 4);
        due("as before it", x.count(0), 0);
        x.save(0);
        due("restore() without chords", x.restore(0), 0);
    }
}
