/** The edges of the promises 1 to 9: a new object, and the changes. The faults have edges of their own (FaultEdgesTest). */
public final class ChangeEdgesTest {
    private static final int LEAST = Integer.MIN_VALUE, GREATEST = Integer.MAX_VALUE;
    private static final String TEN = "36;37;38;39;40;41;42;43;44;45";
    private static final String TEN_WITH_VOICES = "36=1,2,3;36;36=1,2,3;36;36=1,2,3;36;36=1,2,3;36;36;36";

    private static final Edges edges = new Edges("ChangeEdgesTest");

    public static void main(String[] args) {
        newObject();
        twoObjects();
        set();
        setWithinOtherRanges();
        chordAt();
        chordBassAndFigure();
        chordWhenFull();
        chordAmongOthers();
        takeOut();
        takeOutOfTen();
        voice();
        voiceAgain();
        silence();
        transposeBy();
        transposeAtTheEnds();
        transposeKey();
        realise();
        realiseGivenChords();
        realiseTies();
        realiseTen();
        read();
        readTooMany();
        readBasses();
        readTakesThePlace();
        historyIsFull();
        edges.end(1, 9);
    }

    private static void newObject() {
        edges.edge(1, "no chords", """
            count(0) 0
            of(0, 0) NO_SUCH
            voicing(0, 0, 0) NO_SUCH
            parallel(0, 5) NO_SUCH
            nearest(0, 0) NO_SUCH
            ifVoiced(0, 52, 55, 60) NO_SUCH
            voice(0, 52, 55, 60) NO_SUCH
            silence(0) NO_SUCH
            takeOut(0) NO_SUCH
            chord(1, 48, 5) NO_SUCH
            """);
        edges.edge(1, "no upper voices, no faults, no costs", """
            count(1) 0
            count(2) 0
            count(3) 0
            count(4) 0
            count(8) NONE
            """);
        edges.edge(1, "first settings", """
            count(5) 0
            count(6) 16
            count(7) 7
            """);
        edges.edge(1, "an empty pad", """
            count(9) 0
            fault() 0
            read() BAD_TEXT
            wipe() 0
            """);
        edges.edge(1, "nothing to undo, nothing saved", """
            count(10) 0
            undo() NOT_POSSIBLE
            restore(0) NOT_POSSIBLE
            restore(1) NOT_POSSIBLE
            """);
        edges.edge(1, "nothing to realise", """
            realise() NOT_POSSIBLE
            ifRealised() NOT_POSSIBLE
            """);
        edges.edge(1, "all keys", "keys() 4095");
    }

    /** An object that is made behind one in use is new all the same. */
    private static void twoObjects() {
        FiguredBasses used = new FiguredBasses();
        used.set(FiguredBasses.SPAN, 20);
        used.chord(0, 48, 5);
        used.put('5');
        used.save(0);
        newObject();
        edges.edge(1, "an object made behind another one", """
            count(6) 16
            count(0) 0
            """);
    }

    private static void set() {
        String[] names = {"KEY", "SPAN", "LEAP"};
        int[] first = {0, 16, 7};
        int[] least = {0, 7, 1};
        int[] greatest = {11, 24, 12};
        for (int setting = 0; setting < 3; setting++) {
            int count = 5 + setting;
            String name = names[setting];
            edges.edge(2, name + " at its least", """
                set(%d, %d) %d
                count(%d) %d
                """.formatted(setting, least[setting], first[setting], count, least[setting]));
            edges.edge(2, name + " at its greatest", """
                set(%d, %d) %d
                count(%d) %d
                """.formatted(setting, greatest[setting], first[setting], count, greatest[setting]));
            edges.edge(2, name + " from the least to the greatest and back", """
                set(%1$d, %2$d)
                set(%1$d, %3$d) %2$d
                set(%1$d, %2$d) %3$d
                """.formatted(setting, least[setting], greatest[setting]));
            for (int value : new int[] {least[setting] - 1, LEAST, -GREATEST}) {
                edges.edge(2, name + " below its range", "set(%d, %d) BAD_VALUE".formatted(setting, value));
            }
            for (int value : new int[] {greatest[setting] + 1, GREATEST}) {
                edges.edge(2, name + " above its range", "set(%d, %d) BAD_VALUE".formatted(setting, value));
            }
            edges.edge(2, name + " to what it is, a change all the same", """
                set(%1$d, %2$d) %2$d
                count(10) 1
                undo() 0
                """.formatted(setting, first[setting]));
            edges.edge(2, name + " alone changes", """
                set(%d, 9)
                count(5) %d
                count(6) %d
                count(7) %d
                """.formatted(setting, setting == 0 ? 9 : 0, setting == 1 ? 9 : 16, setting == 2 ? 9 : 7));
        }
        for (int setting : new int[] {-1, 3, LEAST, GREATEST}) {
            edges.edge(2, "no such setting", """
                set(%1$d, 8) BAD_VALUE
                set(%1$d, 0) BAD_VALUE
                """.formatted(setting));
        }
    }

    /** Each range is the setting's own: what another setting takes is no matter. */
    private static void setWithinOtherRanges() {
        edges.edge(2, "values that only some settings take", """
            set(0, 12) BAD_VALUE
            set(0, 16) BAD_VALUE
            set(1, 12) 16
            set(2, 12) 7
            set(2, 13) BAD_VALUE
            set(2, 16) BAD_VALUE
            set(1, 1) BAD_VALUE
            set(1, 0) BAD_VALUE
            set(2, 0) BAD_VALUE
            set(0, 0) 0
            """);
        edges.edge(2, "KEY moves no notes", """
            text 48/6=52,57,60
            read()
            set(0, 11) 0
            of(0, 0) 48
            of(0, 1) 6
            of(0, 2) 52
            of(0, 4) 60
            """);
    }

    private static void chordAt() {
        edges.edge(3, "the first one", """
            chord(0, 48, 5) 1
            of(0, 0) 48
            of(1, 0) NO_SUCH
            """);
        edges.edge(3, "one beyond the end of none", "chord(1, 48, 5) NO_SUCH");
        edges.edge(3, "at the end and one beyond", """
            text 40;41
            read()
            chord(3, 48, 5) NO_SUCH
            chord(2, 48, 5) 3
            of(1, 0) 41
            of(2, 0) 48
            """);
        edges.edge(3, "ahead of the first one and one before", """
            text 40;41
            read()
            chord(-1, 48, 5) NO_SUCH
            chord(0, 48, 5) 3
            of(0, 0) 48
            of(1, 0) 40
            of(2, 0) 41
            """);
        edges.edge(3, "ahead of the last one", """
            text 40;41
            read()
            chord(1, 48, 5) 3
            of(0, 0) 40
            of(1, 0) 48
            of(2, 0) 41
            """);
        for (int at : new int[] {LEAST, GREATEST, -2, 10, 11}) {
            edges.edge(3, "far out of range", """
                chord(0, 40, 5)
                chord(%d, 48, 5) NO_SUCH
                """.formatted(at));
        }
    }

    private static void chordBassAndFigure() {
        edges.edge(3, "the lowest bass and one below", """
            chord(0, 35, 5) BAD_VALUE
            chord(0, 36, 5) 1
            of(0, 0) 36
            """);
        edges.edge(3, "the highest bass and one above", """
            chord(0, 60, 5) BAD_VALUE
            chord(0, 59, 5) 1
            of(0, 0) 59
            """);
        for (int bass : new int[] {LEAST, GREATEST, -1, 0, 48 + 256}) {
            edges.edge(3, "a bass far out of range", "chord(0, %d, 5) BAD_VALUE".formatted(bass));
        }
        for (int figure : new int[] {5, 6, 64, 7}) {
            edges.edge(3, "a figure", """
                chord(0, 48, %1$d) 1
                of(0, 1) %1$d
                """.formatted(figure));
        }
        for (int figure : new int[] {4, 8, 63, 65, 0, 1, 46, -5, -6, -7, -64, LEAST, GREATEST}) {
            edges.edge(3, "no figure", "chord(0, 48, %d) BAD_VALUE".formatted(figure));
        }
        edges.edge(3, "a bass that is not on the scale", """
            chord(0, 37, 5) 1
            of(0, 9) NONE
            """);
        edges.edge(3, "NO_SUCH ahead of BAD_VALUE", """
            chord(1, 35, 5) NO_SUCH
            chord(-1, 48, 4) NO_SUCH
            """);
    }

    private static void chordWhenFull() {
        String nine = "36;37;38;39;40;41;42;43;44";
        edges.edge(3, "the tenth one at the end, none behind it", """
            text %s
            read() 9
            chord(9, 59, 7) 10
            of(9, 0) 59
            chord(10, 59, 7) TOO_MANY
            count(0) 10
            """.formatted(nine));
        edges.edge(3, "the tenth one ahead, none ahead of it", """
            text %s
            read() 9
            chord(0, 59, 7) 10
            of(0, 0) 59
            of(9, 0) 44
            chord(0, 59, 7) TOO_MANY
            chord(5, 59, 7) TOO_MANY
            """.formatted(nine));
        edges.edge(3, "errors in their order when there are ten", """
            text %s
            read() 10
            chord(11, 35, 4) NO_SUCH
            chord(11, 48, 5) NO_SUCH
            chord(-1, 48, 5) NO_SUCH
            chord(10, 35, 5) BAD_VALUE
            chord(10, 60, 5) BAD_VALUE
            chord(10, 48, 4) BAD_VALUE
            chord(10, 48, 5) TOO_MANY
            """.formatted(TEN));
        edges.edge(3, "another one once there is a place", """
            text %s
            read() 10
            takeOut(3) 9
            chord(9, 48, 5) 10
            chord(9, 48, 5) TOO_MANY
            undo() 2
            chord(0, 48, 5) 10
            """.formatted(TEN));
    }

    private static void chordAmongOthers() {
        edges.edge(3, "without upper voices, between two that have some", """
            text 48=52,55,60;50=53,57,62
            read()
            of(1, 6) 96
            of(1, 7) 5
            chord(1, 49, 5) 3
            of(1, 2) NONE
            of(0, 2) 52
            of(2, 2) 53
            of(2, 4) 62
            of(2, 6) 0
            of(2, 7) 0
            count(1) 5
            """);
        edges.edge(3, "without upper voices where one had some", """
            text 48;50=53,57,62
            read()
            takeOut(1)
            chord(1, 50, 5) 2
            of(1, 2) NONE
            count(1) 0
            """);
    }

    private static void takeOut() {
        edges.edge(4, "of none", """
            takeOut(0) NO_SUCH
            takeOut(-1) NO_SUCH
            """);
        edges.edge(4, "the only one", """
            chord(0, 48, 5)
            takeOut(0) 0
            of(0, 0) NO_SUCH
            takeOut(0) NO_SUCH
            """);
        edges.edge(4, "the first one", """
            text 36;38/6;40/7
            read()
            takeOut(0) 2
            of(0, 0) 38
            of(0, 1) 6
            of(1, 0) 40
            of(1, 1) 7
            of(2, 0) NO_SUCH
            """);
        edges.edge(4, "the last one and one beyond", """
            text 36;38/6;40/7
            read()
            takeOut(3) NO_SUCH
            takeOut(2) 2
            of(1, 0) 38
            of(2, 0) NO_SUCH
            takeOut(2) NO_SUCH
            """);
        for (int chord : new int[] {-1, LEAST, GREATEST, 10}) {
            edges.edge(4, "out of range", """
                text 36;38
                read()
                takeOut(%d) NO_SUCH
                """.formatted(chord));
        }
        edges.edge(4, "voices move along", """
            text 36=1,2,3;38;40=4,5,6
            read()
            takeOut(1) 2
            of(0, 3) 2
            of(1, 2) 4
            of(1, 4) 6
            count(1) 3
            """);
        edges.edge(4, "faults and costs behind another chord", """
            text 48=52,55,60;49;50=53,57,62
            read()
            of(2, 6) 0
            takeOut(1) 2
            of(1, 6) 96
            of(1, 7) 5
            takeOut(0) 1
            of(0, 6) 0
            of(0, 7) 0
            """);
    }

    private static void takeOutOfTen() {
        edges.edge(4, "of ten the last one", """
            text %s
            read()
            takeOut(10) NO_SUCH
            takeOut(9) 9
            of(8, 0) 44
            takeOut(9) NO_SUCH
            """.formatted(TEN));
        StringBuilder rows = new StringBuilder("text " + TEN + "\nread() 10\n");
        for (int left = 9; left >= 0; left--) {
            rows.append("of(0, 0) ").append(45 - left).append("\ntakeOut(0) ").append(left).append('\n');
        }
        edges.edge(4, "of ten one by one", rows + "takeOut(0) NO_SUCH");
    }

    private static void voice() {
        for (int voice = 0; voice < 3; voice++) {
            for (int note : new int[] {0, 99}) {
                edges.edge(5, "a note at an end", """
                    chord(0, 48, 5)
                    voice(0, %d, %d, %d)
                    of(0, %d) %d
                    """.formatted(voice == 0 ? note : 52, voice == 1 ? note : 55, voice == 2 ? note : 60, 2 + voice, note));
            }
            for (int note : new int[] {-1, 100, 127, 128, LEAST, GREATEST}) {
                edges.edge(5, "a note beyond an end", """
                    chord(0, 48, 5)
                    voice(0, %1$d, %2$d, %3$d) BAD_VALUE
                    of(0, 2) NONE
                    voice(0, 50, 51, 52)
                    voice(0, %1$d, %2$d, %3$d) BAD_VALUE
                    of(0, 2) 50
                    of(0, 3) 51
                    of(0, 4) 52
                    """.formatted(voice == 0 ? note : 52, voice == 1 ? note : 55, voice == 2 ? note : 60));
            }
        }
        edges.edge(5, "no chords", "voice(0, 52, 55, 60) NO_SUCH");
        for (int chord : new int[] {-1, 2, 10, LEAST, GREATEST}) {
            edges.edge(5, "no such chord, ahead of a note out of range", """
                text 48;50
                read()
                voice(%1$d, 52, 55, 60) NO_SUCH
                voice(%1$d, 100, -1, 100) NO_SUCH
                """.formatted(chord));
        }
        edges.edge(5, "the first and the last of ten, and one beyond", """
            text %s
            read()
            voice(0, 1, 2, 3)
            voice(9, 4, 5, 6)
            voice(10, 4, 5, 6) NO_SUCH
            of(0, 4) 3
            of(9, 4) 6
            count(1) 513
            """.formatted(TEN));
    }

    private static void voiceAgain() {
        edges.edge(5, "other voices in place of the first ones", """
            chord(0, 48, 5)
            voice(0, 52, 55, 60) 0
            voice(0, 55, 60, 64) 0
            of(0, 2) 55
            undo() 2
            of(0, 2) 52
            undo() 1
            of(0, 2) NONE
            """);
        edges.edge(5, "the same voices, a change all the same", """
            chord(0, 48, 5)
            voice(0, 52, 55, 60) 0
            voice(0, 52, 55, 60) 0
            count(10) 3
            undo() 2
            of(0, 2) 52
            """);
        edges.edge(5, "its own faults, not those of the chord behind it", """
            text 48;50=53,57,62
            read()
            voice(0, 52, 55, 60) 0
            of(1, 6) 96
            """);
    }

    private static void silence() {
        edges.edge(6, "no chords", "silence(0) NO_SUCH");
        for (int chord : new int[] {-1, 2, 10, LEAST, GREATEST}) {
            edges.edge(6, "no such chord", """
                text 48=52,55,60;50=53,57,62
                read()
                silence(%d) NO_SUCH
                """.formatted(chord));
        }
        edges.edge(6, "one without upper voices", """
            text 48=52,55,60;50
            read()
            silence(1) NOT_POSSIBLE
            silence(0) 0
            silence(0) NOT_POSSIBLE
            of(0, 2) NONE
            of(0, 3) NONE
            of(0, 4) NONE
            """);
        edges.edge(6, "the lowest voices are voices", """
            text 48=0,0,0
            read()
            of(0, 2) 0
            silence(0) 0
            of(0, 2) NONE
            """);
        edges.edge(6, "the bass and the figure stay", """
            text 48/64=52,55,60
            read()
            silence(0) 0
            of(0, 0) 48
            of(0, 1) 64
            """);
        edges.edge(6, "some of ten", """
            text %s
            read() 10
            count(1) 85
            silence(9) NOT_POSSIBLE
            silence(0) 3
            silence(6) 2
            silence(4) 1
            silence(2) 0
            silence(10) NO_SUCH
            """.formatted(TEN_WITH_VOICES));
        edges.edge(6, "the last of ten", """
            text %s
            read() 10
            voice(9, 1, 2, 3)
            silence(9) 4
            of(9, 2) NONE
            """.formatted(TEN_WITH_VOICES));
    }

    private static void transposeBy() {
        for (int by : new int[] {-13, 13, LEAST, GREATEST}) {
            edges.edge(7, "by too much", """
                transpose(%1$d) BAD_VALUE
                chord(0, 48, 5)
                transpose(%1$d) BAD_VALUE
                """.formatted(by));
        }
        edges.edge(7, "12 down", """
            text 48=52,55,60
            read()
            transpose(-12) 0
            of(0, 0) 36
            of(0, 2) 40
            of(0, 3) 43
            of(0, 4) 48
            """);
        edges.edge(7, "12 up", """
            text 47=52,55,60
            read()
            transpose(12) 0
            of(0, 0) 59
            of(0, 2) 64
            of(0, 3) 67
            of(0, 4) 72
            """);
        edges.edge(7, "by 0, a change all the same", """
            text 48=52,55,60
            read()
            transpose(0) 0
            count(10) 2
            of(0, 0) 48
            """);
        edges.edge(7, "without upper voices none come", """
            chord(0, 48, 5)
            transpose(1) 1
            of(0, 2) NONE
            count(1) 0
            """);
        edges.edge(7, "BAD_VALUE ahead of NOT_POSSIBLE", """
            chord(0, 59, 5)
            transpose(13) BAD_VALUE
            transpose(12) NOT_POSSIBLE
            """);
        edges.edge(7, "the figures, SPAN and LEAP stay", """
            chord(0, 48, 64)
            set(1, 20)
            set(2, 3)
            transpose(-5) 7
            of(0, 1) 64
            count(6) 20
            count(7) 3
            """);
    }

    private static void transposeAtTheEnds() {
        edges.edge(7, "the highest bass", """
            text 36;57;36
            read()
            transpose(3) NOT_POSSIBLE
            transpose(2) 2
            of(1, 0) 59
            transpose(1) NOT_POSSIBLE
            transpose(0) 2
            """);
        edges.edge(7, "the lowest bass", """
            text 59;38;59
            read()
            transpose(-3) NOT_POSSIBLE
            transpose(-2) 10
            of(1, 0) 36
            transpose(-1) NOT_POSSIBLE
            transpose(0) 10
            """);
        for (int voice = 0; voice < 3; voice++) {
            edges.edge(7, "the highest note of a voice", """
                text 48=50,50,50;48=%d,%d,%d
                read()
                transpose(3) NOT_POSSIBLE
                transpose(2) 2
                of(1, %d) 99
                transpose(1) NOT_POSSIBLE
                """.formatted(voice == 0 ? 97 : 50, voice == 1 ? 97 : 50, voice == 2 ? 97 : 50, 2 + voice));
            edges.edge(7, "the lowest note of a voice", """
                text 48=%d,%d,%d;48=50,50,50
                read()
                transpose(-3) NOT_POSSIBLE
                transpose(-2) 10
                of(0, %d) 0
                transpose(-1) NOT_POSSIBLE
                """.formatted(voice == 0 ? 2 : 50, voice == 1 ? 2 : 50, voice == 2 ? 2 : 50, 2 + voice));
        }
        edges.edge(7, "the last of ten", """
            text 48;48;48;48;48;48;48;48;48;59
            read() 10
            transpose(1) NOT_POSSIBLE
            transpose(-12) 0
            of(9, 0) 47
            of(0, 0) 36
            """);
    }

    private static void transposeKey() {
        edges.edge(7, "KEY from 11 to 0 and from 0 to 11, without chords", """
            set(0, 11)
            transpose(1) 0
            count(5) 0
            transpose(-1) 11
            count(5) 11
            """);
        for (int key : new int[] {0, 1, 10, 11}) {
            for (int by : new int[] {-12, -11, -2, -1, 0, 1, 2, 11, 12}) {
                edges.edge(7, "KEY left over by 12", """
                    set(0, %1$d)
                    transpose(%2$d) %3$d
                    count(5) %3$d
                    undo() 1
                    count(5) %1$d
                    """.formatted(key, by, (key + by + 12) % 12));
            }
        }
    }

    private static void realise() {
        edges.edge(8, "no chords", """
            realise() NOT_POSSIBLE
            count(10) 0
            """);
        edges.edge(8, "one chord, the first voicing", """
            chord(0, 48, 5)
            realise() 0
            of(0, 2) 52
            of(0, 3) 55
            of(0, 4) 60
            """);
        edges.edge(8, "one chord that has no voicing", """
            chord(0, 49, 5)
            realise() NOT_POSSIBLE
            of(0, 2) NONE
            """);
        edges.edge(8, "one chord without a voicing behind others", """
            text 48;53;49
            read()
            realise() NOT_POSSIBLE
            count(1) 0
            """);
        edges.edge(8, "all have upper voices, a change all the same", """
            text 48=52,55,60;48=52,55,60
            read()
            realise() 0
            count(10) 2
            undo() 1
            realise() 0
            """);
        edges.edge(8, "done again, nothing is different", """
            text 48;53;55;48
            read()
            realise() 12
            realise() 12
            count(10) 3
            undo() 2
            of(0, 2) 60
            undo() 1
            of(0, 2) NONE
            """);
        edges.edge(8, "leaps of LEAP", """
            text 48=52,55,60;48=55,60,64
            read()
            silence(1) 1
            set(2, 1)
            voice(0, 53, 56, 60)
            realise() 2
            of(1, 2) 52
            of(1, 3) 55
            of(1, 4) 60
            """);
        edges.edge(8, "leaps of one more than LEAP", """
            text 48=53,57,60;48
            read()
            set(2, 1)
            realise() NOT_POSSIBLE
            set(2, 2)
            realise() 3
            """);
    }

    private static void realiseGivenChords() {
        edges.edge(8, "given chords have faults of all kinds", """
            text 49=0,99,0;49=99,0,99
            read()
            realise() 297
            """);
        edges.edge(8, "between two given chords that have faults themselves", """
            text 48=52,55,60;50=53,57,62;48
            read()
            of(1, 6) 96
            realise()
            of(2, 6) 0
            of(1, 2) 53
            """);
        edges.edge(8, "the given chord ahead is out of reach", """
            text 48=0,0,0;48
            read()
            realise() NOT_POSSIBLE
            """);
        edges.edge(8, "the given chord behind is out of reach", """
            text 48;48=99,99,99
            read()
            realise() NOT_POSSIBLE
            """);
        edges.edge(8, "the given chord behind has other faults", """
            text 48;48=55,60,67
            read()
            of(1, 6) 8
            realise() 3
            of(1, 6) 8
            of(0, 2) 52
            of(0, 3) 60
            of(0, 4) 67
            """);
        edges.edge(8, "the given chord ahead has other faults", """
            text 48=55,60,67;48
            read()
            of(0, 6) 8
            realise() 3
            of(0, 6) 8
            of(1, 2) 52
            of(1, 3) 60
            of(1, 4) 67
            """);
        edges.edge(8, "given chords that are not on the scale", """
            text 49=52,56,61;48;49=53,56,61
            read()
            realise()
            of(1, 6) 0
            of(2, 6) lacks 5
            of(2, 6) lacks 6
            of(2, 6) lacks 7
            """);
        edges.edge(8, "costs of given chords count, costs across one without voices do not", """
            text 48=52,55,60;48=55,60,67;48
            read()
            count(4) 15
            realise() 18
            count(4) 18
            """);
    }

    /** All ways of two chords are compared in ModelTest; here are those that cost the same in some of them. */
    private static void realiseTies() {
        edges.edge(8, "all ways of one chord cost 0", """
            chord(0, 55, 7)
            realise() 0
            voicing(0, 0, 0) 59
            of(0, 2) 59
            of(0, 3) 62
            of(0, 4) 65
            """);
        edges.edge(8, "chords that can stay as they are", """
            text 48;48;48
            read()
            realise() 0
            of(0, 2) 52
            of(0, 4) 60
            of(1, 2) 52
            of(1, 4) 60
            of(2, 2) 52
            of(2, 4) 60
            """);
        edges.edge(8, "60, 64, 69 to 60, 65, 69, or 64, 69, 72 to 65, 69, 72", """
            text 57;53
            read()
            realise() 1
            of(0, 2) 60
            of(0, 3) 64
            of(0, 4) 69
            of(1, 2) 60
            of(1, 3) 65
            of(1, 4) 69
            """);
        edges.edge(8, "53, 57, 65 to 52, 60, 67, or to 55, 60, 64", """
            text 50;48
            read()
            realise() 6
            of(0, 2) 53
            of(0, 3) 57
            of(0, 4) 65
            of(1, 2) 52
            of(1, 3) 60
            of(1, 4) 67
            """);
        edges.edge(8, "53, 62, 69 to 53, 62, 65, or 57, 62, 65 to it", """
            text 50;47
            read()
            realise() 4
            of(0, 2) 53
            of(0, 3) 62
            of(0, 4) 69
            of(1, 2) 53
            of(1, 3) 62
            of(1, 4) 65
            """);
        edges.edge(8, "the first one is given: of two ways to the second the one sorted ahead", """
            text 48=55,60,70;48
            read()
            realise() 6
            of(1, 2) 52
            of(1, 3) 60
            of(1, 4) 67
            """);
    }

    private static void realiseTen() {
        edges.edge(8, "ten chords", """
            text 48;48;48;48;48;48;48;48;48;48
            read() 10
            realise() 0
            count(1) 1023
            count(2) 0
            of(9, 2) 52
            """);
        edges.edge(8, "ten chords, the last one has no voicing", """
            text 48;48;48;48;48;48;48;48;48;49
            read() 10
            realise() NOT_POSSIBLE
            """);
        edges.edge(8, "ten chords, only the last one is given", """
            text 48;48;48;48;48;48;48;48;48;48=55,60,70
            read() 10
            realise() 6
            of(9, 4) 70
            of(8, 2) 52
            of(8, 4) 67
            of(0, 2) 52
            of(0, 3) 60
            of(0, 4) 67
            """);
        edges.edge(8, "ten chords, the last one is given and out of reach", """
            text 48;48;48;48;48;48;48;48;48;48=52,55,80
            read() 10
            realise() NOT_POSSIBLE
            """);
    }

    private static void read() {
        edges.edge(9, "an empty pad", """
            read() BAD_TEXT
            chord(0, 48, 5)
            read() BAD_TEXT
            """);
        edges.edge(9, "a text that ends too early", """
            text 48=52,55
            read() BAD_TEXT
            count(9) 8
            fault() 8
            text ,60
            read() 1
            of(0, 4) 60
            """);
        edges.edge(9, "a text with a fault", """
            text 48;50:
            read() BAD_TEXT
            count(9) 6
            wipe() 6
            """);
        edges.edge(9, "the least text", """
            text 6
            read() BAD_VALUE
            text 0
            read() BAD_VALUE
            wipe() 2
            text 36
            read() 1
            """);
        edges.edge(9, "the least and the greatest note of each voice", """
            text 36=0,99,0;59=99,0,99
            read() 2
            of(0, 2) 0
            of(0, 3) 99
            of(0, 4) 0
            of(1, 2) 99
            of(1, 3) 0
            of(1, 4) 99
            """);
        edges.edge(9, "figures, 5 without", """
            text 48;48/5;48/6;48/64;48/7
            read() 5
            of(0, 1) 5
            of(1, 1) 5
            of(2, 1) 6
            of(3, 1) 64
            of(4, 1) 7
            """);
        edges.edge(9, "a pad of 80 characters", """
            text 48/64=52,55,60;48/64=52,55,61;48/64=52,55,62;48/64=52,55,63;48/64=52,55,64;50/64
            count(9) 80
            read() 6
            of(4, 4) 64
            of(5, 0) 50
            of(5, 1) 64
            of(5, 2) NONE
            count(9) 0
            """);
    }

    private static void readTooMany() {
        edges.edge(9, "ten chords", """
            text %s
            read() 10
            of(0, 0) 36
            of(9, 0) 45
            """.formatted(TEN));
        edges.edge(9, "eleven chords", """
            chord(0, 48, 5)
            text %s;46
            read() TOO_MANY
            count(0) 1
            count(9) 32
            """.formatted(TEN));
        edges.edge(9, "forty chords", """
            text 1;1;1;1;1;1;1;1;1;1;1;1;1;1;1;1;1;1;1;1;1;1;1;1;1;1;1;1;1;1;1;1;1;1;1;1;1;1;1;11
            count(9) 80
            fault() NONE
            read() TOO_MANY
            """);
        edges.edge(9, "BAD_TEXT ahead of TOO_MANY", """
            text %s;46;
            read() BAD_TEXT
            """.formatted(TEN));
        edges.edge(9, "BAD_TEXT ahead of BAD_VALUE", """
            text 35;x
            read() BAD_TEXT
            """);
        edges.edge(9, "TOO_MANY ahead of BAD_VALUE", """
            text %s;60
            read() TOO_MANY
            wipe() 32
            text 35;%s
            read() TOO_MANY
            """.formatted(TEN, TEN));
    }

    private static void readBasses() {
        edges.edge(9, "the lowest bass and one below", """
            text 35
            read() BAD_VALUE
            wipe() 2
            text 36
            read() 1
            of(0, 0) 36
            """);
        edges.edge(9, "the highest bass and one above", """
            text 60
            read() BAD_VALUE
            wipe() 2
            text 59
            read() 1
            of(0, 0) 59
            """);
        for (String text : new String[] {"0", "99", "5/7", "36;35", "60;59", "36;36;36;36;36;36;36;36;36;60", "48;9=52,55,60"}) {
            edges.edge(9, "a bass out of range", """
                chord(0, 48, 5)
                text %s
                fault() NONE
                read() BAD_VALUE
                count(9) %d
                """.formatted(text, text.length()));
        }
    }

    private static void readTakesThePlace() {
        edges.edge(9, "fewer chords in place of ten", """
            text %s
            read() 10
            text 48
            read() 1
            of(0, 0) 48
            of(0, 2) NONE
            of(1, 0) NO_SUCH
            count(1) 0
            undo() 1
            count(1) 85
            undo() 0
            count(0) 0
            """.formatted(TEN_WITH_VOICES));
        edges.edge(9, "the settings stay, the pad is emptied", """
            set(0, 11)
            set(1, 7)
            set(2, 12)
            text 48
            read() 1
            count(5) 11
            count(6) 7
            count(7) 12
            count(9) 0
            fault() 0
            read() BAD_TEXT
            """);
        edges.edge(9, "undone, the pad stays empty", """
            text 48
            read() 1
            undo() 0
            count(0) 0
            count(9) 0
            """);
        edges.edge(9, "the same chords, a change all the same", """
            text 48
            read() 1
            text 48
            read() 1
            count(10) 2
            """);
    }

    /** Each change records the state before it, also where six are kept: then the oldest one is dropped. */
    private static void historyIsFull() {
        seventhChange(2, "set(2, 12) 7");
        seventhChange(3, "chord(0, 48, 5) 3");
        seventhChange(4, "takeOut(0) 1");
        seventhChange(5, "voice(0, 1, 2, 3)");
        seventhChange(6, "silence(1) 1");
        seventhChange(7, "transpose(-1) 0");
        seventhChange(8, "realise() 0");
        seventhChange(9, "read() 1");
    }

    private static void seventhChange(int promise, String change) {
        edges.edge(promise, "the seventh change, " + change, """
            set(0, 2)
            text 48=52,55,60;48=52,55,60
            read() 2
            set(0, 3)
            set(0, 4)
            set(0, 5)
            set(0, 1)
            count(10) 6
            text 36
            %s
            count(10) 6
            undo() 5
            count(0) 2
            count(1) 3
            count(5) 1
            count(7) 7
            of(0, 0) 48
            of(0, 2) 52
            undo() 4
            count(5) 5
            undo() 3
            count(5) 4
            undo() 2
            count(5) 3
            undo() 1
            count(5) 2
            count(0) 2
            undo() 0
            count(0) 0
            undo() NOT_POSSIBLE
            count(5) 2
            """.formatted(change));
    }
}
