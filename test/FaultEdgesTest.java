/** The edges of the terms: scale and steps, tones of chords, and each fault, as voice, of and ifVoiced tell them. */
public final class FaultEdgesTest {
    private static final Edges edges = new Edges("FaultEdgesTest");

    public static void main(String[] args) {
        stepsLeftOverByTwelve();
        tonesLeftOverBySeven();
        tonesLeftOverByTwelve();
        ranges();
        notAboveTheNextLower();
        spread();
        span();
        strangeTones();
        missingTones();
        doubledLeadingTones();
        noChordAhead();
        fifths();
        eachInterval();
        fifthsOfEachPair();
        unisons();
        leaps();
        leadingTonesThatDoNotRise();
        leadingTonesInEachKey();
        leadingTonesThatNeedNot();
        edges.end(5, 5);
    }

    // ---- scale, steps and tones

    /** The steps of all basses in the first keys and in the last ones; none has the others. */
    private static void stepsLeftOverByTwelve() {
        String[][] steps = {
            {"0", "0", "NONE", "1", "NONE", "2", "3", "NONE", "4", "NONE", "5", "NONE", "6"},
            {"1", "6", "0", "NONE", "1", "NONE", "2", "3", "NONE", "4", "NONE", "5", "NONE"},
            {"10", "1", "NONE", "2", "3", "NONE", "4", "NONE", "5", "NONE", "6", "0", "NONE"},
            {"11", "NONE", "1", "NONE", "2", "3", "NONE", "4", "NONE", "5", "NONE", "6", "0"}};
        for (String[] key : steps) {
            for (int bass = 36; bass <= 59; bass++) {
                edges.edge(10, "a step in KEY " + key[0], """
                    set(0, %s)
                    chord(0, %d, 5)
                    of(0, 9) %s
                    """.formatted(key[0], bass, key[1 + bass % 12]));
            }
        }
    }

    /** On the tonic no step is 7 or more, on the leading tone all but the first one are. */
    private static void tonesLeftOverBySeven() {
        tones(0, 48, 5, 0, 4, 7);
        tones(0, 48, 6, 0, 4, 9);
        tones(0, 48, 64, 0, 5, 9);
        tones(0, 48, 7, 0, 4, 7, 11);
        tones(0, 50, 5, 2, 5, 9);
        tones(0, 50, 6, 2, 5, 11);
        tones(0, 50, 64, 2, 7, 11);
        tones(0, 50, 7, 2, 5, 9, 0);
        tones(0, 52, 6, 4, 7, 0);
        tones(0, 53, 5, 5, 9, 0);
        tones(0, 53, 64, 5, 11, 2);
        tones(0, 55, 5, 7, 11, 2);
        tones(0, 55, 6, 7, 11, 4);
        tones(0, 55, 64, 7, 0, 4);
        tones(0, 55, 7, 7, 11, 2, 5);
        tones(0, 57, 5, 9, 0, 4);
        tones(0, 57, 64, 9, 2, 5);
        tones(0, 59, 5, 11, 2, 5);
        tones(0, 59, 6, 11, 2, 7);
        tones(0, 59, 64, 11, 4, 7);
        tones(0, 59, 7, 11, 2, 5, 9);
    }

    /** In the first keys and the last ones, with the lowest bass and the highest one. */
    private static void tonesLeftOverByTwelve() {
        tones(0, 36, 5, 0, 4, 7);
        tones(1, 36, 5, 0, 3, 6);
        tones(1, 36, 7, 0, 3, 6, 10);
        tones(11, 59, 5, 11, 3, 6);
        tones(11, 59, 7, 11, 3, 6, 10);
        tones(11, 58, 7, 10, 1, 4, 8);
        tones(11, 49, 64, 1, 6, 10);
        tones(10, 57, 6, 9, 0, 5);
        tones(10, 46, 64, 10, 3, 7);
        tones(0, 49, 5);
        tones(0, 58, 7);
        tones(11, 36, 64);
        tones(1, 59, 6);
    }

    private static void tones(int key, int bass, int figure, int... tones) {
        int set = 0;
        for (int tone : tones) {
            set |= 1 << tone;
        }
        edges.edge(10, "tones of " + bass + "/" + figure + " in " + key, """
            set(0, %d)
            chord(0, %d, %d)
            of(0, 5) %d
            """.formatted(key, bass, figure, set));
    }

    // ---- faults of a chord alone

    /** The chord is told by KEY, SPAN, bass and figure; "has 0" asks for the fault 0, "lacks 0" for none. */
    private static void own(String chord, String notes, String faults) {
        String[] told = chord.split(" ");
        String before = """
            set(0, %s)
            set(1, %s)
            text %s
            read() 1
            """.formatted(told[0], told[1], told[2]);
        String name = chord + "=" + notes + " " + faults;
        edges.edge(5, name, before + "voice(0, " + notes + ") " + faults);
        edges.edge(10, name, before + "voice(0, " + notes + ")\nof(0, 6) " + faults);
        edges.edge(16, name, before + "ifVoiced(0, " + notes + ") " + faults);
    }

    private static void ranges() {
        String c = "0 24 36";
        own(c, "48, 55, 64", "lacks 0");
        own(c, "47, 55, 64", "has 0");
        own(c, "67, 70, 75", "lacks 0");
        own(c, "68, 70, 75", "has 0");
        own(c, "50, 53, 58", "lacks 0");
        own(c, "50, 52, 58", "has 0");
        own(c, "67, 74, 79", "lacks 0");
        own(c, "67, 75, 79", "has 0");
        own(c, "50, 55, 58", "lacks 0");
        own(c, "50, 55, 57", "has 0");
        own(c, "67, 74, 78", "lacks 0");
        own(c, "67, 74, 80", "has 0");
        own(c, "0, 55, 64", "has 0");
        own(c, "50, 0, 64", "has 0");
        own(c, "50, 55, 0", "has 0");
        own(c, "99, 55, 64", "has 0");
        own(c, "50, 99, 64", "has 0");
        own(c, "50, 55, 99", "has 0");
    }

    private static void notAboveTheNextLower() {
        own("0 24 59", "60, 63, 66", "lacks 0");
        own("0 24 59", "59, 63, 66", "has 0");
        own("0 24 59", "58, 63, 66", "has 0");
        own("0 24 48", "49, 56, 60", "lacks 0");
        own("0 24 48", "48, 56, 60", "has 0");
        own("0 24 36", "55, 56, 60", "lacks 0");
        own("0 24 36", "55, 55, 60", "has 0");
        own("0 24 36", "55, 54, 60", "has 0");
        own("0 24 36", "50, 60, 61", "lacks 0");
        own("0 24 36", "50, 60, 60", "has 0");
        own("0 24 36", "50, 60, 59", "has 0");
    }

    private static void spread() {
        String c = "0 24 36";
        own(c, "50, 62, 64", "lacks 1");
        own(c, "50, 63, 64", "has 1");
        own(c, "50, 55, 67", "lacks 1");
        own(c, "50, 55, 68", "has 1");
        own(c, "50, 62, 74", "lacks 1");
        own(c, "0, 12, 24", "lacks 1");
        own(c, "0, 99, 99", "has 1");
        own(c, "0, 0, 99", "has 1");
        // Only what is above counts: voices that cross are not far apart.
        own(c, "67, 53, 58", "lacks 1");
        own(c, "60, 72, 58", "lacks 1");
        own(c, "99, 99, 0", "lacks 1");
        own(c, "99, 0, 0", "lacks 1");
    }

    private static void span() {
        own("0 7 36", "50, 54, 57", "lacks 1");
        own("0 7 36", "50, 54, 58", "has 1");
        own("0 8 36", "50, 54, 58", "lacks 1");
        own("0 16 36", "50, 58, 66", "lacks 1");
        own("0 16 36", "50, 58, 67", "has 1");
        own("0 23 36", "50, 61, 73", "lacks 1");
        own("0 23 36", "50, 62, 74", "has 1");
        own("0 24 36", "50, 62, 74", "lacks 1");
        own("0 24 36", "50, 62, 75", "has 1");
        // SPAN is for the tenor and the soprano alone, and 12 for the others alone.
        own("0 7 36", "50, 62, 57", "lacks 1");
        own("0 7 36", "50, 63, 57", "has 1");
        own("0 7 36", "57, 50, 62", "lacks 1");
        own("0 7 36", "57, 50, 63", "has 1");
        edges.edge(5, "SPAN 16 at first", """
            chord(0, 36, 5)
            voice(0, 50, 58, 66) lacks 1
            voice(0, 50, 58, 67) has 1
            """);
    }

    private static void strangeTones() {
        own("0 16 48", "52, 55, 60", "lacks 2");
        own("0 16 48", "53, 55, 60", "has 2");
        own("0 16 48", "52, 56, 60", "has 2");
        own("0 16 48", "52, 55, 61", "has 2");
        own("0 16 48", "48, 48, 48", "lacks 2");
        // The seventh is of the chord with 7 alone.
        own("0 16 48/7", "52, 55, 59", "lacks 2");
        own("0 16 48/5", "52, 55, 59", "has 2");
        own("0 16 48/6", "52, 57, 60", "lacks 2");
        own("0 16 48/6", "52, 55, 60", "has 2");
        own("0 16 48/64", "53, 57, 60", "lacks 2");
        own("0 16 48/64", "52, 57, 60", "has 2");
        // The lowest note has the tone 0, the highest one the tone 3.
        own("0 16 48", "0, 0, 0", "lacks 2");
        own("3 16 39", "99, 99, 99", "lacks 2");
        own("2 16 38", "99, 99, 99", "has 2");
        // No tone is of the chord on a bass that is not on the scale, not even the bass's own.
        own("0 16 49", "49, 61, 73", "has 2");
        own("0 16 49", "52, 55, 60", "has 2");
        own("0 16 49/7", "53, 56, 60", "has 2");
    }

    private static void missingTones() {
        own("0 16 48", "52, 55, 60", "lacks 3");
        own("0 16 48", "55, 64, 67", "lacks 3");
        own("0 16 48", "52, 64, 67", "lacks 3");
        own("0 16 48", "55, 60, 67", "has 3");
        own("0 16 48", "52, 60, 64", "has 3");
        own("0 16 48", "60, 60, 60", "has 3");
        own("0 16 48/7", "52, 55, 59", "lacks 3");
        own("0 16 48/7", "59, 64, 67", "lacks 3");
        own("0 16 48/7", "52, 55, 60", "has 3");
        own("0 16 48/7", "52, 59, 60", "has 3");
        own("0 16 48/7", "55, 59, 60", "has 3");
        // Notes far out of range have tones, too.
        own("0 16 48", "4, 7, 0", "lacks 3");
        own("3 16 39", "99, 91, 94", "lacks 3");
        // A bass that is not on the scale has no tones that could be missing.
        own("0 16 49", "50, 50, 50", "lacks 3");
    }

    private static void doubledLeadingTones() {
        own("0 16 43", "59, 62, 67", "lacks 4");
        own("0 16 43", "59, 62, 71", "has 4");
        own("0 16 43", "59, 71, 74", "has 4");
        own("0 16 43", "50, 59, 71", "has 4");
        own("0 16 43", "59, 59, 59", "has 4");
        own("0 16 47/6", "50, 55, 62", "lacks 4");
        own("0 16 47/6", "59, 62, 67", "has 4");
        own("0 16 47/6", "55, 59, 62", "has 4");
        own("0 16 47/6", "50, 55, 59", "has 4");
        own("0 16 48", "52, 55, 60", "lacks 4");
        // The tonic, twice, is no fault.
        own("0 16 48", "55, 60, 64", "lacks 4");
        // Left over by 12: 0 in the key 1, 10 in the key 11.
        own("1 16 36", "48, 55, 63", "has 4");
        own("1 16 37", "48, 60, 65", "has 4");
        own("1 16 37", "59, 71, 65", "lacks 4");
        own("11 16 46", "58, 61, 64", "has 4");
        own("11 16 47", "58, 70, 63", "has 4");
        own("11 16 47", "57, 69, 63", "lacks 4");
        for (int key = 0; key < 12; key++) {
            String dominant = key + " 24 " + (36 + (key + 7) % 12);
            int leading = 48 + (key + 11) % 12;
            own(dominant, leading + ", " + (leading + 3) + ", " + (leading + 8), "lacks 4");
            own(dominant, leading + ", " + (leading + 3) + ", " + (leading + 12), "has 4");
        }
        // Also where the bass is not on the scale.
        own("0 16 49", "59, 62, 71", "has 4");
        own("0 16 49", "59, 62, 67", "lacks 4");
    }

    // ---- faults behind another chord

    /** The chords are told as on the pad; each row of faults is what the second one has or lacks in KEY and with LEAP. */
    private static void behind(String settings, String chords, String... faults) {
        String[] told = settings.split(" ");
        String notes = chords.substring(chords.lastIndexOf('=') + 1).replace(",", ", ");
        StringBuilder rows = new StringBuilder();
        rows.append("set(0, ").append(told[0]).append(")\nset(2, ").append(told[1]).append(")\n");
        rows.append("text ").append(chords).append("\nread() 2\n");
        String before = rows.toString();
        for (String fault : faults) {
            String name = chords + " " + fault;
            if (fault.startsWith("parallel")) {
                edges.edge(13, name, before + fault);
            } else {
                edges.edge(5, name, before + "silence(1)\nvoice(1, " + notes + ") " + fault);
                edges.edge(10, name, before + "of(1, 6) " + fault);
                edges.edge(16, name, before + "ifVoiced(1, " + notes + ") " + fault);
            }
        }
    }

    private static void noChordAhead() {
        edges.edge(5, "the chord 0 has none of the faults 5 to 8", """
            chord(0, 48, 5)
            voice(0, 59, 66, 78) lacks 5
            voice(0, 59, 71, 83) lacks 6
            voice(0, 0, 99, 0) lacks 7
            voice(0, 59, 71, 83) lacks 8
            parallel(0, 5) NONE
            parallel(0, 6) NONE
            """);
        edges.edge(5, "behind a chord without upper voices there are none", """
            text 48;50=53,57,62
            read()
            voice(1, 53, 57, 62) 0
            of(1, 6) 0
            ifVoiced(1, 99, 0, 99) lacks 7
            parallel(1, 5) NONE
            parallel(1, 6) NONE
            """);
        edges.edge(5, "the chord ahead is the next one, not the one before it", """
            text 48=52,55,60;49;50=53,57,62
            read()
            of(2, 6) 0
            silence(0)
            voice(1, 52, 56, 61)
            of(2, 6) has 6
            of(1, 6) lacks 6
            """);
        edges.edge(5, "the last one of ten has faults behind the ninth", """
            text 36;36;36;36;36;36;36;36;48=52,55,60;50=53,57,62
            read() 10
            of(9, 6) 96
            of(8, 6) 0
            count(2) 512
            """);
    }

    private static void fifths() {
        String all = "0 12";
        behind(all, "48=55,60,64;50=57,58,65", "has 5", "parallel(1, 5) 1", "lacks 6", "parallel(1, 6) NONE");
        // A halftone less or more is no fifth, in either chord, and a fourth is none.
        behind(all, "48=54,60,64;50=57,58,65", "lacks 5", "parallel(1, 5) NONE");
        behind(all, "48=56,60,64;50=57,58,65", "lacks 5", "parallel(1, 5) NONE");
        behind(all, "48=55,60,64;50=56,58,65", "lacks 5", "parallel(1, 5) NONE");
        behind(all, "48=55,60,64;50=58,58,65", "lacks 5", "parallel(1, 5) NONE");
        behind(all, "48=53,59,63;50=55,61,65", "lacks 5", "parallel(1, 5) NONE");
        // One or two octaves more, in one chord or both, up or down.
        behind(all, "36=55,60,64;38=57,58,65", "has 5", "parallel(1, 5) 1");
        behind(all, "48=67,60,64;50=57,58,65", "has 5", "parallel(1, 5) 1");
        behind(all, "50=57,60,65;48=67,62,64", "has 5", "parallel(1, 5) 1");
        // The tone of the upper one is below that of the lower one: left over by 12.
        behind(all, "43=50,60,64;45=52,58,66", "has 5", "parallel(1, 5) 1");
        behind(all, "53=60,64,68;52=59,65,69", "has 5", "parallel(1, 5) 1");
        // Both have other notes: neither stays, also if the other one moves by an octave.
        behind(all, "48=55,60,64;48=55,62,66", "lacks 5", "parallel(1, 5) NONE");
        behind(all, "36=55,60,64;48=55,62,66", "lacks 5", "parallel(1, 5) NONE");
        behind(all, "48=55,60,64;48=67,62,66", "lacks 5", "parallel(1, 5) NONE");
        behind(all, "36=55,60,64;48=67,62,66", "has 5", "parallel(1, 5) 1");
        behind(all, "48=55,60,64;49=56,60,64", "has 5", "parallel(1, 5) 1");
        // The lowest and the highest notes.
        behind(all, "48=0,7,50;48=92,99,50", "has 5", "parallel(1, 5) 6");
        behind(all, "48=99,10,50;48=98,9,50", "has 5", "parallel(1, 5) 6");
        // Voices that cross: the upper one is the one that is named later.
        behind(all, "48=67,60,50;48=69,62,50", "lacks 5", "parallel(1, 5) NONE");
        behind(all, "48=67,62,50;48=69,64,50", "has 5", "parallel(1, 5) 6");
        // Several pairs: the lowest lower voice, then the lowest upper one.
        behind(all, "48=55,67,79;50=57,69,81", "has 5", "parallel(1, 5) 1", "has 6", "parallel(1, 6) 6");
        behind(all, "48=50,55,67;50=55,57,69", "has 5", "parallel(1, 5) 2", "has 6", "parallel(1, 6) 11");
        behind(all, "48=50,57,57;48=52,59,59", "has 5", "parallel(1, 5) 6", "has 6", "parallel(1, 6) 11");
        behind(all, "48=55,62,67;50=57,64,69", "has 5", "parallel(1, 5) 1", "has 6", "parallel(1, 6) 7");
        behind(all, "48=53,55,60;50=55,57,62", "has 5", "parallel(1, 5) 2", "has 6", "parallel(1, 6) 3");
        // Where the basses are not on the scale.
        behind(all, "49=56,60,64;51=58,63,66", "has 5", "parallel(1, 5) 1");
    }

    /** Bass and tenor move alike by a halftone, with each interval that is left over by 12; the others stay. */
    private static void eachInterval() {
        for (int interval = 0; interval < 12; interval++) {
            for (int by : new int[] {-1, 1}) {
                for (int bass : new int[] {36 + 1, 47, 48, 59 - 1}) {
                    String first = told(new int[] {bass, bass + interval, 70, 74});
                    String second = told(new int[] {bass + by, bass + interval + by, 70, 74});
                    behind("0 12", first + ";" + second, interval == 7 ? "has 5" : "lacks 5", interval == 0 ? "has 6" : "lacks 6");
                }
            }
        }
    }

    /** In each pair of voices both move alike, from a fifth or an octave; the others stay. */
    private static void fifthsOfEachPair() {
        for (int lower = 0; lower < 3; lower++) {
            for (int upper = lower + 1; upper < 4; upper++) {
                for (int by : new int[] {-1, 1}) {
                    pair(lower, upper, by, 7, 5);
                    pair(lower, upper, by, 19, 5);
                    pair(lower, upper, by, 12, 6);
                    pair(lower, upper, by, 24, 6);
                }
            }
        }
    }

    private static void pair(int lower, int upper, int by, int interval, int fault) {
        int[] first = {40, 49, 59, 65};
        first[upper] = first[lower] + interval;
        int[] second = first.clone();
        second[lower] += by;
        second[upper] += by;
        behind("0 12", told(first) + ";" + told(second), "has " + fault, "lacks " + (11 - fault),
            "parallel(1, " + fault + ") " + (4 * lower + upper), "parallel(1, " + (11 - fault) + ") NONE");
        int[] less = second.clone();
        less[upper]--;
        behind("0 12", told(first) + ";" + told(less), "lacks " + fault, "parallel(1, " + fault + ") NONE");
        int[] more = second.clone();
        more[upper]++;
        behind("0 12", told(first) + ";" + told(more), "lacks " + fault, "parallel(1, " + fault + ") NONE");
    }

    private static String told(int[] voices) {
        return voices[0] + "=" + voices[1] + "," + voices[2] + "," + voices[3];
    }

    private static void unisons() {
        String all = "0 12";
        behind(all, "48=60,64,67;50=62,63,66", "has 6", "parallel(1, 6) 1", "lacks 5", "parallel(1, 5) NONE");
        behind(all, "48=48,64,67;50=50,63,66", "has 6", "parallel(1, 6) 1");
        behind(all, "48=52,60,60;48=52,61,61", "has 6", "parallel(1, 6) 11");
        behind(all, "48=0,60,66;50=62,61,67", "has 6", "parallel(1, 6) 1");
        // A halftone less or more is neither unison nor octave.
        behind(all, "48=59,64,67;50=62,63,66", "lacks 6", "parallel(1, 6) NONE");
        behind(all, "48=61,64,67;50=62,63,66", "lacks 6", "parallel(1, 6) NONE");
        behind(all, "48=60,64,67;50=61,63,66", "lacks 6", "parallel(1, 6) NONE");
        behind(all, "48=60,64,67;50=63,62,66", "lacks 6", "parallel(1, 6) NONE");
        // Neither stays.
        behind(all, "48=60,64,67;48=60,63,66", "lacks 6", "parallel(1, 6) NONE");
        behind(all, "36=60,64,67;48=60,63,66", "lacks 6", "parallel(1, 6) NONE");
        behind(all, "48=60,64,67;48=72,63,66", "lacks 6", "parallel(1, 6) NONE");
        behind(all, "36=60,64,67;48=72,63,66", "has 6", "parallel(1, 6) 1");
        behind(all, "36=60,64,67;48=48,63,66", "has 6", "parallel(1, 6) 1");
        // An octave into a fifth and a fifth into an octave are neither.
        behind(all, "48=60,64,67;50=57,63,66", "lacks 5", "lacks 6");
        behind(all, "50=57,64,67;48=60,63,66", "lacks 5", "lacks 6");
    }

    private static void leaps() {
        for (int leap : new int[] {1, 7, 12}) {
            for (int voice = 0; voice < 3; voice++) {
                for (int up : new int[] {-1, 1}) {
                    behind("0 " + leap, "48=55,60,64;48=" + moved(voice, up * leap), "lacks 7");
                    behind("0 " + leap, "48=55,60,64;48=" + moved(voice, up * (leap + 1)), "has 7");
                }
            }
        }
        behind("0 1", "36=55,60,64;59=55,60,64", "lacks 7");
        behind("0 1", "59=55,60,64;36=55,60,64", "lacks 7");
        behind("0 12", "48=0,60,64;48=99,60,64", "has 7");
        behind("0 12", "48=55,60,99;48=55,60,0", "has 7");
        edges.edge(5, "LEAP 7 at first", """
            text 48=55,60,64;48=62,60,64
            read()
            of(1, 6) lacks 7
            voice(1, 63, 60, 64) has 7
            """);
    }

    private static String moved(int voice, int by) {
        int[] notes = {55, 60, 64};
        notes[voice] += by;
        return notes[0] + "," + notes[1] + "," + notes[2];
    }

    private static void leadingTonesThatDoNotRise() {
        int[][] ahead = {{59, 62, 67}, {55, 59, 62}, {50, 55, 59}};
        for (int voice = 0; voice < 3; voice++) {
            String first = told(new int[] {43, ahead[voice][0], ahead[voice][1], ahead[voice][2]});
            for (int rise : new int[] {-12, -11, -2, -1, 0, 1, 2, 12}) {
                int[] then = {48, ahead[voice][0], ahead[voice][1], ahead[voice][2]};
                then[1 + voice] += rise;
                behind("0 12", first + ";" + told(then), rise == 1 ? "lacks 8" : "has 8");
            }
        }
        // Up by 1 and an octave is not by 1.
        behind("0 12", "43=55,59,62;48=55,72,64", "has 8");
        // Two leading tones: both have to rise.
        behind("0 12", "43=59,71,74;48=60,72,74", "lacks 8");
        behind("0 12", "43=59,71,74;48=60,71,74", "has 8");
        behind("0 12", "43=59,71,74;48=59,72,74", "has 8");
        // Left over by 12: in the key 1 the leading tone is 0, in the key 11 it is 10.
        behind("1 12", "44=60,63,68;49=61,65,68", "lacks 8");
        behind("1 12", "44=60,63,68;49=56,65,68", "has 8");
        behind("11 12", "42=58,61,66;47=59,63,66", "lacks 8");
        behind("11 12", "42=58,61,66;47=54,63,66", "has 8");
        behind("11 12", "42=59,61,66;47=54,63,66", "lacks 8");
    }

    /** In each key: to the tonic with the leading tone in the tenor, rising and falling, and without it. */
    private static void leadingTonesInEachKey() {
        for (int key = 0; key < 12; key++) {
            int leading = 48 + (key + 11) % 12;
            int dominant = 36 + (key + 7) % 12;
            String with = told(new int[] {dominant, leading, leading + 3, leading + 8});
            String without = told(new int[] {dominant, leading + 3, leading + 8, leading + 15});
            for (int tonic = 36 + key; tonic < 60; tonic += 12) {
                behind(key + " 12", with + ";" + told(new int[] {tonic, leading + 1, leading + 5, leading + 8}), "lacks 8");
                behind(key + " 12", with + ";" + told(new int[] {tonic, leading - 4, leading + 5, leading + 8}), "has 8");
                behind(key + " 12", without + ";" + told(new int[] {tonic, leading + 5, leading + 8, leading + 13}), "lacks 8");
            }
        }
    }

    /** The tonic has to be a tone of this chord; a bass that had the leading tone need not rise. */
    private static void leadingTonesThatNeedNot() {
        behind("0 12", "43=55,59,62;52=55,59,64", "lacks 8");
        behind("0 12", "43=55,59,62;50=57,62,65", "lacks 8");
        behind("0 12", "43=55,59,62;49=56,60,65", "lacks 8");
        behind("0 12", "47/6=50,55,62;36=52,55,60", "lacks 8");
        behind("0 12", "47/6=50,55,62;47/6=50,55,62", "lacks 8");
        // The tonic is a tone of chords on other steps, whether or not a voice has it.
        behind("0 12", "43=55,59,62;45=52,57,64", "has 8");
        behind("0 12", "43=55,59,62;41=53,57,65", "has 8");
        behind("0 12", "43=55,59,62;50/7=57,57,65", "has 8");
        behind("0 12", "43=55,59,62;50=57,57,65", "lacks 8");
        behind("0 12", "43=55,59,62;52/6=55,64,67", "has 8");
        behind("0 12", "43=55,59,62;55/64=55,64,67", "has 8");
        // The tonic in a voice, but not a tone of the chord.
        behind("0 12", "43=55,59,62;52=60,64,67", "lacks 8");
        // The leading tone behind, not ahead.
        behind("0 12", "48=55,60,64;48/7=52,55,59", "lacks 8");
    }
}
