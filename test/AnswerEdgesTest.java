/** The edges of the promises 10 to 17: what there is, and what would be. The faults have edges of their own (FaultEdgesTest). */
public final class AnswerEdgesTest {
    private static final int LEAST = Integer.MIN_VALUE, GREATEST = Integer.MAX_VALUE;
    private static final int[] NO_CHORD_OF_TWO = {-1, 2, 9, 10, LEAST, GREATEST};

    private static final Edges edges = new Edges("AnswerEdgesTest");

    public static void main(String[] args) {
        ofErrors();
        ofWithoutVoices();
        ofCosts();
        ofHowManyVoicings();
        voicingErrors();
        voicingRanks();
        countErrors();
        countChords();
        countFaults();
        countCosts();
        countSettings();
        countHighestSoprano();
        countPadAndHistory();
        parallelErrors();
        ifRealised();
        nearestErrors();
        nearestAhead();
        nearestOfSeveral();
        ifVoicedNotes();
        ifVoicedChords();
        keys();
        edges.end(10, 17);
    }

    // ---- of

    private static void ofErrors() {
        edges.edge(10, "no chords", """
            of(0, 0) NO_SUCH
            of(0, 9) NO_SUCH
            of(-1, 0) NO_SUCH
            of(0, 10) NO_SUCH
            """);
        for (int chord : NO_CHORD_OF_TWO) {
            edges.edge(10, "no such chord, ahead of what", """
                text 48=52,55,60;50
                read()
                of(%1$d, 0) NO_SUCH
                of(%1$d, 2) NO_SUCH
                of(%1$d, 9) NO_SUCH
                of(%1$d, 10) NO_SUCH
                of(%1$d, -1) NO_SUCH
                """.formatted(chord));
        }
        for (int what : new int[] {-1, 10, LEAST, GREATEST}) {
            edges.edge(10, "no such number, also where others are NONE", """
                text 48=52,55,60;49
                read()
                of(0, %1$d) BAD_VALUE
                of(1, %1$d) BAD_VALUE
                """.formatted(what));
        }
        edges.edge(10, "the first number and the last one", """
            chord(0, 59, 5)
            of(0, 0) 59
            of(0, 9) 6
            """);
        edges.edge(10, "the first and the last of ten", """
            text 36;37;38;39;40;41;42;43;44;45/7=1,2,3
            read()
            of(0, 0) 36
            of(9, 0) 45
            of(9, 1) 7
            of(9, 2) 1
            of(9, 3) 2
            of(9, 4) 3
            of(9, 9) 5
            of(10, 0) NO_SUCH
            of(10, 10) NO_SUCH
            """);
    }

    private static void ofWithoutVoices() {
        edges.edge(10, "without upper voices, on the scale", """
            chord(0, 48, 64)
            of(0, 0) 48
            of(0, 1) 64
            of(0, 2) NONE
            of(0, 3) NONE
            of(0, 4) NONE
            of(0, 5) 545
            of(0, 6) 0
            of(0, 7) 0
            of(0, 9) 0
            """);
        edges.edge(10, "without upper voices, not on the scale", """
            chord(0, 49, 7)
            of(0, 0) 49
            of(0, 1) 7
            of(0, 2) NONE
            of(0, 3) NONE
            of(0, 4) NONE
            of(0, 5) 0
            of(0, 6) 0
            of(0, 7) 0
            of(0, 8) 0
            of(0, 9) NONE
            """);
        edges.edge(10, "the lowest voices are voices", """
            text 48=0,0,0
            read()
            of(0, 2) 0
            of(0, 3) 0
            of(0, 4) 0
            of(0, 6) 9
            """);
        edges.edge(10, "the highest voices", """
            text 48=99,99,99
            read()
            of(0, 2) 99
            of(0, 3) 99
            of(0, 4) 99
            of(0, 6) 13
            """);
    }

    private static void ofCosts() {
        edges.edge(10, "the cost of the chord 0", """
            text 48=52,55,60;48=55,60,64
            read()
            of(0, 7) 0
            of(1, 7) 12
            """);
        edges.edge(10, "one of both has no upper voices", """
            text 48=52,55,60;48;48=55,60,64;48
            read()
            of(1, 7) 0
            of(2, 7) 0
            of(3, 7) 0
            """);
        edges.edge(10, "no way, and the longest one", """
            text 48=0,99,0;48=0,99,0;48=99,0,99
            read()
            of(1, 7) 0
            of(2, 7) 297
            """);
        for (int voice = 0; voice < 3; voice++) {
            edges.edge(10, "a voice a step up, a step down", """
                text 36=50,55,60;59=%d,%d,%d;36=50,55,60
                read()
                of(1, 7) 1
                of(2, 7) 1
                """.formatted(voice == 0 ? 51 : 50, voice == 1 ? 56 : 55, voice == 2 ? 61 : 60));
        }
        edges.edge(10, "up and down do not even out", """
            text 48=50,55,60;48=52,53,60
            read()
            of(1, 7) 4
            """);
    }

    private static void ofHowManyVoicings() {
        edges.edge(10, "as many with upper voices as without, and behind any chord", """
            text 48;48=99,99,99;48=0,0,0
            read()
            of(0, 8) 14
            of(1, 8) 14
            of(2, 8) 14
            """);
        edges.edge(10, "SPAN from its least to its greatest", """
            chord(0, 48, 7)
            set(1, 7)
            of(0, 8) 2
            set(1, 16)
            of(0, 8) 8
            set(1, 24)
            of(0, 8) 9
            """);
        // G B E over B: the bass has the leading tone, no other voice may. With SPAN 7 E, G and E are too wide.
        edges.edge(10, "none on the scale", """
            chord(0, 59, 64)
            set(1, 7)
            of(0, 8) 0
            voicing(0, 0, 0) NO_SUCH
            of(0, 5) 2192
            """);
    }

    // ---- voicing

    private static void voicingErrors() {
        edges.edge(11, "no chords", """
            voicing(0, 0, 0) NO_SUCH
            voicing(-1, 0, 0) NO_SUCH
            """);
        for (int chord : NO_CHORD_OF_TWO) {
            edges.edge(11, "no such chord, ahead of the others", """
                text 48;50
                read()
                voicing(%1$d, 0, 0) NO_SUCH
                voicing(%1$d, 0, 3) NO_SUCH
                voicing(%1$d, 99, -1) NO_SUCH
                """.formatted(chord));
        }
        for (int rank : new int[] {-1, 14, 20, 21, LEAST, GREATEST}) {
            edges.edge(11, "not so many, ahead of what", """
                chord(0, 48, 5)
                of(0, 8) 14
                voicing(0, %1$d, 0) NO_SUCH
                voicing(0, %1$d, 3) NO_SUCH
                voicing(0, %1$d, -1) NO_SUCH
                """.formatted(rank));
        }
        edges.edge(11, "none at all, ahead of what", """
            chord(0, 49, 5)
            voicing(0, 0, 0) NO_SUCH
            voicing(0, 0, 3) NO_SUCH
            """);
        for (int what : new int[] {-1, 3, LEAST, GREATEST}) {
            edges.edge(11, "no such voice", """
                chord(0, 48, 5)
                voicing(0, 0, %1$d) BAD_VALUE
                voicing(0, 13, %1$d) BAD_VALUE
                """.formatted(what));
        }
    }

    private static void voicingRanks() {
        // G C E over C, up to the highest soprano.
        edges.edge(11, "the first one and the last one", """
            chord(0, 48, 5)
            voicing(0, 0, 0) 52
            voicing(0, 0, 1) 55
            voicing(0, 0, 2) 60
            voicing(0, 13, 0) 67
            voicing(0, 13, 1) 72
            voicing(0, 13, 2) 76
            voicing(0, 14, 2) NO_SUCH
            """);
        edges.edge(11, "sorted by tenor, then alto, then soprano", """
            chord(0, 48, 5)
            voicing(0, 1, 0) 52
            voicing(0, 1, 1) 55
            voicing(0, 1, 2) 64
            voicing(0, 2, 1) 55
            voicing(0, 2, 2) 67
            voicing(0, 3, 0) 52
            voicing(0, 3, 1) 60
            voicing(0, 3, 2) 67
            voicing(0, 4, 1) 64
            voicing(0, 5, 0) 55
            """);
        // 48, 55, 64 is a voicing over 36 alone: the tenor is above the bass.
        edges.edge(11, "the tenor at its lowest and at the bass", """
            text 36;48
            read()
            of(0, 8) 15
            voicing(0, 0, 0) 48
            voicing(0, 0, 1) 55
            voicing(0, 0, 2) 64
            of(1, 8) 14
            voicing(1, 0, 0) 52
            """);
        firstAndLast(0, 43, 5, 10, "50, 55, 59", "67, 71, 74");
        firstAndLast(10, 46, 5, 16, "50, 53, 58", "65, 74, 77");
        firstAndLast(0, 41, 5, 11, "48, 57, 60", "65, 69, 72");
        firstAndLast(8, 44, 5, 13, "48, 56, 63", "63, 72, 75");
        firstAndLast(2, 47, 6, 11, "50, 55, 59", "67, 74, 79");
        firstAndLast(3, 39, 5, 13, "51, 55, 58", "67, 70, 79");
        edges.edge(11, "the most that a chord has", """
            chord(0, 40, 6)
            set(1, 24)
            of(0, 8) 20
            voicing(0, 0, 0) 48
            voicing(0, 0, 1) 55
            voicing(0, 0, 2) 60
            voicing(0, 19, 0) 67
            voicing(0, 19, 1) 72
            voicing(0, 19, 2) 79
            voicing(0, 20, 0) NO_SUCH
            """);
        edges.edge(11, "the last of ten", """
            text 49;49;49;49;49;49;49;49;49;48
            read() 10
            voicing(9, 0, 0) 52
            voicing(9, 13, 0) 67
            voicing(10, 0, 0) NO_SUCH
            """);
        edges.edge(11, "also where the chord has upper voices", """
            text 48=0,0,0;48=99,99,99
            read()
            voicing(0, 0, 0) 52
            voicing(1, 0, 0) 52
            voicing(1, 13, 2) 76
            """);
    }

    /** Voicings up to the ends of the ranges, of chords that have tones at the ends or a halftone beyond. */
    private static void firstAndLast(int key, int bass, int figure, int many, String first, String last) {
        String[] low = first.split(", ");
        String[] high = last.split(", ");
        StringBuilder rows = new StringBuilder("""
            set(0, %d)
            chord(0, %d, %d)
            of(0, 8) %d
            """.formatted(key, bass, figure, many));
        for (int voice = 0; voice < 3; voice++) {
            rows.append("voicing(0, 0, %d) %s\n".formatted(voice, low[voice]));
            rows.append("voicing(0, %d, %d) %s\n".formatted(many - 1, voice, high[voice]));
            rows.append("voicing(0, %d, %d) NO_SUCH\n".formatted(many, voice));
        }
        edges.edge(11, "the first and the last of " + bass + "/" + figure + " in the key " + key, rows.toString());
    }

    // ---- count

    private static void countErrors() {
        for (int what : new int[] {-1, 11, LEAST, GREATEST}) {
            edges.edge(12, "no such number", """
                count(%1$d) BAD_VALUE
                chord(0, 48, 5)
                count(%1$d) BAD_VALUE
                """.formatted(what));
        }
    }

    private static void countChords() {
        edges.edge(12, "none", """
            count(0) 0
            count(1) 0
            """);
        edges.edge(12, "ten, all with upper voices", """
            text 36=1,2,3;36=1,2,3;36=1,2,3;36=1,2,3;36=1,2,3
            read() 5
            chord(5, 36, 5)
            chord(6, 36, 5)
            chord(7, 36, 5)
            chord(8, 36, 5)
            chord(9, 36, 5)
            count(0) 10
            count(1) 31
            voice(5, 1, 2, 3)
            voice(6, 1, 2, 3)
            voice(7, 1, 2, 3)
            voice(8, 1, 2, 3)
            count(1) 511
            voice(9, 0, 0, 0)
            count(1) 1023
            count(2) 1023
            """);
        edges.edge(12, "only the last of ten has upper voices", """
            text 36;36;36;36;36;36;36;36;36;36=1,2,3
            read() 10
            count(1) 512
            count(2) 512
            """);
    }

    private static void countFaults() {
        edges.edge(12, "no upper voices, no faults, whatever the bass is", """
            text 49;51;54
            read()
            count(2) 0
            count(3) 0
            """);
        edges.edge(12, "upper voices without faults", """
            text 48=52,55,60;48=52,55,60
            read()
            count(2) 0
            count(3) 0
            """);
        edges.edge(12, "each fault is counted for each chord that has it", """
            text 48=52,55,60;50=53,57,62;52=55,59,64
            read()
            of(1, 6) 96
            of(2, 6) 96
            count(2) 6
            count(3) 4
            """);
        edges.edge(12, "a fault counts once a chord, however many voices make it", """
            text 48=52,55,60;48=53,57,62
            read()
            of(1, 6) 12
            count(2) 2
            count(3) 2
            """);
        edges.edge(12, "the first and the last of ten", """
            text 36=0,0,0;36;36;36;36;36;36;36;36;36=0,0,0
            read() 10
            of(0, 6) 9
            of(9, 6) 9
            count(2) 513
            count(3) 4
            """);
        // B is strange to the chord, E and G are missing, and the leading tone is in three voices: one fault.
        edges.edge(12, "faults 0, 2, 3, 4", """
            text 48=59,59,59
            read()
            of(0, 6) 29
            count(3) 4
            """);
    }

    private static void countCosts() {
        edges.edge(12, "no chords, one chord, one with upper voices", """
            count(4) 0
            chord(0, 48, 5)
            count(4) 0
            voice(0, 52, 55, 60)
            count(4) 0
            """);
        edges.edge(12, "not across a chord without upper voices", """
            text 48=52,55,60;48=55,60,64;48;48=52,55,60;48=52,55,61
            read()
            count(4) 13
            """);
        edges.edge(12, "the greatest costs", """
            text 36=0,0,0;36=99,99,99;36=0,0,0;36=99,99,99;36=0,0,0
            read()
            count(4) 1188
            text 36;36;36;36;36;36;36;36;36;36
            read() 10
            voice(0, 0, 0, 0)
            voice(1, 99, 99, 99)
            voice(2, 0, 0, 0)
            voice(3, 99, 99, 99)
            voice(4, 0, 0, 0)
            voice(5, 99, 99, 99)
            voice(6, 0, 0, 0)
            voice(7, 99, 99, 99)
            voice(8, 0, 0, 0)
            voice(9, 99, 99, 99)
            count(4) 2673
            realise() 2673
            """);
    }

    private static void countSettings() {
        edges.edge(12, "the settings at their least", """
            set(0, 0)
            set(1, 7)
            set(2, 1)
            count(5) 0
            count(6) 7
            count(7) 1
            """);
        edges.edge(12, "the settings at their greatest", """
            set(0, 11)
            set(1, 24)
            set(2, 12)
            count(5) 11
            count(6) 24
            count(7) 12
            """);
    }

    private static void countHighestSoprano() {
        edges.edge(12, "no upper voices", """
            text 48;50
            read()
            count(8) NONE
            """);
        edges.edge(12, "a soprano of 0, below the others", """
            text 48=99,99,0
            read()
            count(8) 0
            silence(0) 0
            count(8) NONE
            """);
        edges.edge(12, "a soprano of 99", """
            text 48=0,0,99;48
            read()
            count(8) 99
            """);
        edges.edge(12, "in the first, the middle, the last one", """
            text 48=0,0,70;48=0,0,60;48=0,0,50
            read()
            count(8) 70
            voice(1, 0, 0, 71)
            count(8) 71
            voice(2, 0, 0, 72)
            count(8) 72
            """);
    }

    private static void countPadAndHistory() {
        edges.edge(12, "the pad, empty and full", """
            count(9) 0
            text 1234567812345678123456781234567812345678123456781234567812345678123456781234567
            count(9) 79
            text 8
            count(9) 80
            wipe() 80
            count(9) 0
            """);
        edges.edge(12, "the history, empty and full", """
            count(10) 0
            set(0, 1)
            count(10) 1
            set(0, 2)
            set(0, 3)
            set(0, 4)
            set(0, 5)
            count(10) 5
            set(0, 6)
            count(10) 6
            set(0, 7)
            count(10) 6
            undo() 5
            count(10) 5
            """);
    }

    // ---- parallel

    private static void parallelErrors() {
        edges.edge(13, "no chords", """
            parallel(0, 5) NO_SUCH
            parallel(0, 4) NO_SUCH
            """);
        for (int chord : NO_CHORD_OF_TWO) {
            edges.edge(13, "no such chord, ahead of kind", """
                text 48=52,55,60;50=53,57,62
                read()
                parallel(%1$d, 5) NO_SUCH
                parallel(%1$d, 6) NO_SUCH
                parallel(%1$d, 4) NO_SUCH
                """.formatted(chord));
        }
        for (int kind : new int[] {4, 7, 0, -5, -6, LEAST, GREATEST}) {
            edges.edge(13, "no such kind, ahead of NONE", """
                text 48=52,55,60;50=53,57,62;52
                read()
                parallel(0, %1$d) BAD_VALUE
                parallel(1, %1$d) BAD_VALUE
                parallel(2, %1$d) BAD_VALUE
                """.formatted(kind));
        }
        edges.edge(13, "the chord 0", """
            text 48=55,60,67
            read()
            parallel(0, 5) NONE
            parallel(0, 6) NONE
            """);
        edges.edge(13, "no upper voices here, none ahead, none in both", """
            text 48=52,55,60;50;52=55,59,64;53;55
            read()
            parallel(1, 5) NONE
            parallel(2, 5) NONE
            parallel(2, 6) NONE
            parallel(3, 6) NONE
            parallel(4, 5) NONE
            """);
        edges.edge(13, "one of both kinds only", """
            text 48=55,60,64;50=57,62,65;48=55,59,64
            read()
            parallel(1, 5) 1
            parallel(1, 6) 2
            parallel(2, 5) 1
            parallel(2, 6) NONE
            """);
        edges.edge(13, "the last of ten", """
            text 36;36;36;36;36;36;36;36;48=52,55,60;50=53,57,62
            read() 10
            parallel(9, 5) 2
            parallel(9, 6) 3
            parallel(8, 5) NONE
            parallel(10, 5) NO_SUCH
            """);
    }

    // ---- ifRealised

    private static void ifRealised() {
        edges.edge(14, "no chords", "ifRealised() NOT_POSSIBLE");
        edges.edge(14, "one chord", """
            chord(0, 48, 5)
            ifRealised() 0
            of(0, 2) NONE
            count(10) 1
            """);
        edges.edge(14, "one that has no voicing", """
            chord(0, 49, 5)
            ifRealised() NOT_POSSIBLE
            """);
        edges.edge(14, "all have upper voices", """
            text 49=0,99,0;49=99,0,99
            read()
            ifRealised() 297
            """);
        edges.edge(14, "a chord ahead and one behind that cannot be reached", """
            text 48=0,0,0;48
            read()
            ifRealised() NOT_POSSIBLE
            silence(0)
            ifRealised() 0
            voice(1, 99, 99, 99)
            ifRealised() NOT_POSSIBLE
            """);
        edges.edge(14, "ten chords", """
            text 48;53;55;48;48;53;55;48;48;48
            read() 10
            ifRealised()
            count(1) 0
            takeOut(8)
            chord(9, 49, 5) 10
            ifRealised() NOT_POSSIBLE
            """);
        edges.edge(14, "the chord with the most voicings", """
            text 40/6;40/6
            read()
            set(1, 24)
            ifRealised() 0
            voice(1, 67, 72, 79) 0
            ifRealised() 0
            realise() 0
            of(0, 2) 67
            of(0, 3) 72
            of(0, 4) 79
            """);
        edges.edge(14, "fewer chords than before", """
            text 48;53;55;48
            read()
            ifRealised() 12
            takeOut(3) 3
            ifRealised() 9
            takeOut(2) 2
            ifRealised() 3
            takeOut(1) 1
            ifRealised() 0
            takeOut(0) 0
            ifRealised() NOT_POSSIBLE
            """);
        edges.edge(14, "what realise returns, before it and behind it", """
            text 48;53;55;48
            read()
            ifRealised() 12
            realise() 12
            ifRealised() 12
            """);
    }

    // ---- nearest

    private static void nearestErrors() {
        edges.edge(15, "no chords", """
            nearest(0, 0) NO_SUCH
            nearest(0, 4) NO_SUCH
            """);
        for (int chord : NO_CHORD_OF_TWO) {
            edges.edge(15, "no such chord, ahead of what", """
                text 48=52,55,60;50=53,57,62
                read()
                nearest(%1$d, 0) NO_SUCH
                nearest(%1$d, 4) NO_SUCH
                nearest(%1$d, -1) NO_SUCH
                """.formatted(chord));
        }
        for (int what : new int[] {-1, 4, LEAST, GREATEST}) {
            edges.edge(15, "no such number, ahead of NOT_POSSIBLE and NONE", """
                text 48;50;48=0,0,0;48;48=52,55,60;48
                read()
                nearest(0, %1$d) BAD_VALUE
                nearest(1, %1$d) BAD_VALUE
                nearest(3, %1$d) BAD_VALUE
                nearest(5, %1$d) BAD_VALUE
                """.formatted(what));
        }
        edges.edge(15, "the chord 0, ahead of NONE", """
            text 49;48
            read()
            nearest(0, 0) NOT_POSSIBLE
            nearest(0, 3) NOT_POSSIBLE
            voice(0, 52, 55, 60)
            nearest(0, 0) NOT_POSSIBLE
            """);
        edges.edge(15, "the one ahead has no upper voices, ahead of NONE", """
            text 48=52,55,60;48;49
            read()
            nearest(2, 0) NOT_POSSIBLE
            nearest(2, 3) NOT_POSSIBLE
            """);
        edges.edge(15, "no voicing at all", """
            text 48=52,55,60;49
            read()
            nearest(1, 0) NONE
            nearest(1, 3) NONE
            """);
        edges.edge(15, "voicings, but none without faults", """
            text 48=0,0,0;48
            read()
            of(1, 8) 14
            nearest(1, 0) NONE
            nearest(1, 1) NONE
            nearest(1, 2) NONE
            nearest(1, 3) NONE
            """);
    }

    private static void nearestAhead() {
        edges.edge(15, "the same chord again", """
            text 48=55,60,64;48
            read()
            nearest(1, 0) 55
            nearest(1, 1) 60
            nearest(1, 2) 64
            nearest(1, 3) 0
            """);
        edges.edge(15, "at LEAP, and one beyond", """
            text 48=53,57,60;48
            read()
            set(2, 2)
            nearest(1, 0) 52
            nearest(1, 1) 55
            nearest(1, 2) 60
            nearest(1, 3) 3
            set(2, 1)
            nearest(1, 3) NONE
            """);
        edges.edge(15, "its own upper voices do not matter, nor those behind it", """
            text 48=55,60,64;48=0,0,0;48=99,99,99
            read()
            nearest(1, 0) 55
            nearest(1, 3) 0
            of(1, 2) 0
            """);
        edges.edge(15, "the faults of the chord ahead do not matter", """
            text 48=55,60,67;48
            read()
            of(0, 6) 8
            nearest(1, 3) 3
            nearest(1, 0) 52
            nearest(1, 1) 60
            nearest(1, 2) 67
            """);
        edges.edge(15, "the last of ten", """
            text 36;36;36;36;36;36;36;36;48=55,60,64;48
            read() 10
            nearest(9, 3) 0
            nearest(9, 0) 55
            nearest(8, 0) NOT_POSSIBLE
            nearest(10, 0) NO_SUCH
            """);
    }

    private static void nearestOfSeveral() {
        // Behind another bass 53, 57, 62 makes no parallels with it.
        edges.edge(15, "parallels with the bass of the chord ahead, not with another one", """
            text 50;48=52,55,60;50;50
            read()
            ifVoiced(2, 53, 57, 62) 96
            nearest(2, 0) 57
            nearest(2, 3) 17
            text 48;43=52,55,60;50;48
            read()
            ifVoiced(2, 53, 57, 62) 0
            nearest(2, 0) 53
            nearest(2, 1) 57
            nearest(2, 2) 62
            nearest(2, 3) 5
            """);
        // From 55, 60, 70: 52, 60, 67 and 55, 60, 64 cost 6 each.
        edges.edge(15, "of two with the same cost the first one", """
            text 48=55,60,70;48
            read()
            ifVoiced(1, 55, 60, 64) 0
            ifVoiced(1, 52, 60, 67) 0
            nearest(1, 0) 52
            nearest(1, 1) 60
            nearest(1, 2) 67
            nearest(1, 3) 6
            """);
        // 53, 57, 62 is nearer to 52, 55, 60, but in fifths and octaves.
        edges.edge(15, "the nearest one has faults", """
            text 48=52,55,60;50
            read()
            ifVoiced(1, 53, 57, 62) 96
            nearest(1, 0) 57
            nearest(1, 1) 62
            nearest(1, 2) 65
            nearest(1, 3) 17
            """);
    }

    // ---- ifVoiced

    private static void ifVoicedNotes() {
        for (int voice = 0; voice < 3; voice++) {
            for (int note : new int[] {0, 99}) {
                edges.edge(16, "a note at an end", """
                    chord(0, 48, 5)
                    ifVoiced(0, %d, %d, %d) has 0
                    of(0, 2) NONE
                    """.formatted(voice == 0 ? note : 52, voice == 1 ? note : 55, voice == 2 ? note : 60));
            }
            for (int note : new int[] {-1, 100, 127, 128, LEAST, GREATEST}) {
                edges.edge(16, "a note beyond an end", """
                    chord(0, 48, 5)
                    ifVoiced(0, %d, %d, %d) BAD_VALUE
                    """.formatted(voice == 0 ? note : 52, voice == 1 ? note : 55, voice == 2 ? note : 60));
            }
        }
    }

    private static void ifVoicedChords() {
        edges.edge(16, "no chords", """
            ifVoiced(0, 52, 55, 60) NO_SUCH
            ifVoiced(0, 100, 55, 60) NO_SUCH
            """);
        for (int chord : NO_CHORD_OF_TWO) {
            edges.edge(16, "no such chord, ahead of the notes", """
                text 48=52,55,60;50=53,57,62
                read()
                ifVoiced(%1$d, 52, 55, 60) NO_SUCH
                ifVoiced(%1$d, 100, -1, 100) NO_SUCH
                """.formatted(chord));
        }
        edges.edge(16, "with upper voices and without, the same", """
            text 48=52,55,60;50;50=53,57,62
            read()
            ifVoiced(1, 53, 57, 62) 96
            ifVoiced(1, 50, 53, 57) has 0
            voice(1, 52, 57, 62)
            ifVoiced(1, 53, 57, 62) 96
            ifVoiced(0, 55, 60, 64) 0
            """);
        edges.edge(16, "the last of ten", """
            text 36;36;36;36;36;36;36;36;48=52,55,60;50
            read() 10
            ifVoiced(9, 53, 57, 62) 96
            ifVoiced(0, 53, 57, 62) has 2
            ifVoiced(10, 53, 57, 62) NO_SUCH
            """);
    }

    // ---- keys

    private static void keys() {
        edges.edge(17, "no chords, all keys, whatever the key is", """
            keys() 4095
            set(0, 11)
            keys() 4095
            chord(0, 48, 5)
            takeOut(0)
            keys() 4095
            """);
        int[] scale = {0, 2, 4, 5, 7, 9, 11};
        for (int bass = 36; bass <= 59; bass++) {
            int keys = 0;
            for (int step : scale) {
                keys |= 1 << (bass - step) % 12;
            }
            edges.edge(17, "the keys of one bass, left over by 12", """
                chord(0, %1$d, 5)
                keys() %2$d
                set(0, 11)
                keys() %2$d
                """.formatted(bass, keys));
        }
        edges.edge(17, "none", """
            text 48;49;50
            read()
            keys() 0
            """);
        edges.edge(17, "only the key 11", """
            text 47;49;51;52;54;56;58
            read() 7
            keys() 2048
            """);
        edges.edge(17, "only the key 0", """
            text 59;41
            read()
            keys() 65
            chord(2, 36, 5)
            keys() 1
            """);
        edges.edge(17, "the first and the last of ten count", """
            text 37;48;48;48;48;48;48;48;48;50
            read() 10
            keys() 0
            takeOut(0)
            keys() 1193
            takeOut(8)
            keys() 1451
            """);
        edges.edge(17, "figures and upper voices do not matter", """
            text 48/7=49,51,54
            read()
            keys() 1451
            """);
    }
}
