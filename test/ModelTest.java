import java.util.Random;

/** Random runs of calls, the same ones each time, with the answers of the slow model as those that are due. */
public final class ModelTest {
    private static final int RUNS = 4000;
    // An object is used for 512 calls; those of a step and of a look at everything are fewer than these.
    private static final int CALLS = 512, CALLS_OF_STEP = 8, CALLS_OF_EVERYTHING = 125;
    private static final int[] BASSES_OF_C = {36, 38, 40, 41, 43, 45, 47, 48, 50, 52, 53, 55, 57, 59};
    private static final int[] FIGURES = {5, 6, 64, 7};
    private static final int[] FIGURES_MOSTLY_5 = {5, 5, 5, 5, 6, 6, 64, 7};
    private static final int[] WILD = {Integer.MIN_VALUE, Integer.MIN_VALUE + 1, -100, -2, -1, 10, 11, 99, 100, 101, 128,
        1 << 20, Integer.MAX_VALUE - 1, Integer.MAX_VALUE};
    private static final String SIGNS = "0123456789/=,;5647x!~";

    private final Check check;
    private final Random random;
    private final FiguredBasses x = new FiguredBasses();
    private final Model model = new Model();
    private final int kind;
    private final int askedBefore;
    private int longestText;
    private int realised;
    private int parallels;
    private int nearests;

    private ModelTest(Check check, long seed) {
        this.check = check;
        random = new Random(seed);
        kind = (int) (seed % 4);
        askedBefore = check.asked();
    }

    public static void main(String[] args) {
        Check check = new Check("ModelTest");
        int realised = 0;
        int parallels = 0;
        int nearests = 0;
        int longest = 0;
        for (int seed = 1; seed <= RUNS && check.allRight(); seed++) {
            ModelTest run = new ModelTest(check, seed);
            run.begin("seed " + seed + ", ");
            for (int step = 0; run.callsLeft() >= CALLS_OF_STEP && check.allRight(); step++) {
                run.call("seed " + seed + ", step " + step + ": ");
            }
            realised += run.realised;
            parallels += run.parallels;
            nearests += run.nearests;
            longest = Math.max(longest, run.longestText);
        }
        System.out.println("realised " + realised + ", parallels " + parallels + ", nearest ones " + nearests + ", longest text " + longest);
        check.holds("the runs reach what they are for", realised > 3000 && parallels > 1500 && nearests > 1500 && longest == 80);
        check.end();
    }

    /** Each answer that is compared is of one call. */
    private int callsLeft() {
        return CALLS - (check.asked() - askedBefore);
    }

    /** Some chords, half of them with upper voices, so that runs need not be long to have many. */
    private void begin(String where) {
        int chords = below(11);
        for (int chord = 0; chord < chords; chord++) {
            addChord(where, chord);
            if (below(2) == 0) {
                voiceOne(where);
            }
        }
    }

    private void addChord(String where, int at) {
        int bass = bass();
        int figure = figure();
        check.due(where + "chord(" + at + ", " + bass + ", " + figure + ")", x.chord(at, bass, figure), model.chord(at, bass, figure));
    }

    private int below(int bound) {
        return random.nextInt(bound);
    }

    private int oneOf(int[] numbers) {
        return numbers[below(numbers.length)];
    }

    private int number(int least, int most) {
        return below(40) == 0 ? oneOf(WILD) : least - 1 + below(most - least + 3);
    }

    private int likely(int least, int most) {
        return below(30) == 0 ? number(least, most) : least + below(most - least + 1);
    }

    private int chordNumber() {
        return likely(0, Math.max(0, model.count(0) - 1));
    }

    private int figure() {
        return below(40) == 0 ? number(4, 65) : oneOf(kind == 0 ? FIGURES : FIGURES_MOSTLY_5);
    }

    private int bass() {
        return below(kind == 1 ? 3 : 60) == 0 ? likely(36, 59) : oneOf(BASSES_OF_C);
    }

    private void call(String where) {
        int pick = below(100);
        if (pick < 55) {
            change(where, pick);
        } else if (pick < 85) {
            ask(where, pick - 55);
        } else {
            text(where, pick - 85);
        }
    }

    private void change(String where, int pick) {
        if (pick < 3) {
            int setting = likely(0, 2);
            int value = kind == 3 || setting != 0 ? likely(0, 24) : 0;
            check.due(where + "set(" + setting + ", " + value + ")", x.set(setting, value), model.set(setting, value));
        } else if (pick < 15) {
            addChord(where, likely(0, model.count(0)));
        } else if (pick < 18) {
            int chord = chordNumber();
            check.due(where + "takeOut(" + chord + ")", x.takeOut(chord), model.takeOut(chord));
        } else if (pick < 30) {
            voiceOne(where);
        } else if (pick < 38) {
            int chord = chordNumber();
            check.due(where + "silence(" + chord + ")", x.silence(chord), model.silence(chord));
        } else if (pick < 41) {
            int by = kind == 3 ? number(-12, 12) : number(-12, 12) / 12 * 12;
            check.due(where + "transpose(" + by + ")", x.transpose(by), model.transpose(by));
        } else if (pick < 45) {
            int want = model.realise();
            realised += want > 0 ? 1 : 0;
            check.due(where + "realise()", x.realise(), want);
            everything(where);
        } else if (pick < 50) {
            check.due(where + "undo()", x.undo(), model.undo());
            everything(where);
        } else if (pick < 52) {
            int slot = number(0, 1);
            check.due(where + "save(" + slot + ")", x.save(slot), model.save(slot));
        } else {
            int slot = number(0, 1);
            check.due(where + "restore(" + slot + ")", x.restore(slot), model.restore(slot));
            everything(where);
        }
    }

    /** Gives voices that are a voicing, near one, near those ahead, or anything. */
    private void voiceOne(String where) {
        int chord = chordNumber();
        int[] notes = new int[3];
        int rank = below(20);
        int from = below(2) == 0 ? chord : chord - 1;
        for (int voice = 0; voice < 3; voice++) {
            int given = model.of(from, 2 + voice);
            int known = model.voicing(chord, rank, voice);
            notes[voice] = given >= 0 && below(3) > 0 ? given : known >= 0 ? known : likely(48, 79);
        }
        if (below(3) == 0) {
            moveFromAhead(chord, notes);
        }
        int by = below(6) == 0 ? below(15) - 7 : 0;
        for (int voice = 0; voice < 3; voice++) {
            notes[voice] += by + (below(8) == 0 ? below(9) - 4 : 0);
            notes[voice] = below(60) == 0 ? number(0, 99) : notes[voice];
        }
        String call = "voice(" + chord + ", " + notes[0] + ", " + notes[1] + ", " + notes[2] + ")";
        int want = model.ifVoiced(chord, notes[0], notes[1], notes[2]);
        check.due(where + "if " + call, x.ifVoiced(chord, notes[0], notes[1], notes[2]), want);
        if (below(4) > 0) {
            check.due(where + call, x.voice(chord, notes[0], notes[1], notes[2]), model.voice(chord, notes[0], notes[1], notes[2]));
        }
    }

    /** Makes the notes those ahead, most of them moved as the bass moves or otherwise alike. */
    private void moveFromAhead(int chord, int[] notes) {
        int by = below(2) == 0 ? below(7) - 3 : model.of(chord, 0) - model.of(chord - 1, 0);
        for (int voice = 0; voice < 3; voice++) {
            int ahead = model.of(chord - 1, 2 + voice);
            notes[voice] = ahead >= 0 && below(4) > 0 ? ahead + by : notes[voice];
        }
    }

    private void ask(String where, int pick) {
        int chord = chordNumber();
        if (pick < 8) {
            int what = number(0, 9);
            check.due(where + "of(" + chord + ", " + what + ")", x.of(chord, what), model.of(chord, what));
        } else if (pick < 11) {
            int rank = number(0, 20);
            int what = number(0, 2);
            check.due(where + "voicing(" + chord + ", " + rank + ", " + what + ")", x.voicing(chord, rank, what), model.voicing(chord, rank, what));
        } else if (pick < 18) {
            int what = number(0, 10);
            check.due(where + "count(" + what + ")", x.count(what), model.count(what));
        } else if (pick < 21) {
            askParallel(where, chord, number(5, 6));
        } else if (pick < 23) {
            check.due(where + "ifRealised()", x.ifRealised(), model.ifRealised());
        } else if (pick < 27) {
            int what = number(0, 3);
            int want = model.nearest(chord, what);
            nearests += want >= 0 ? 1 : 0;
            check.due(where + "nearest(" + chord + ", " + what + ")", x.nearest(chord, what), want);
        } else {
            check.due(where + "keys()", x.keys(), model.keys());
        }
    }

    private void askParallel(String where, int chord, int which) {
        int want = model.parallel(chord, which);
        parallels += want >= 0 ? 1 : 0;
        check.due(where + "parallel(" + chord + ", " + which + ")", x.parallel(chord, which), want);
    }

    private void text(String where, int pick) {
        if (pick < 8) {
            putText(where, below(3) == 0 ? noise() : chordText());
        } else if (pick < 9) {
            long characters = below(2) == 0 ? random.nextLong() : random.nextLong() & 0x7f7f7f7fL;
            check.due(where + "put(" + characters + ")", x.put(characters), model.put(characters));
        } else if (pick < 12) {
            check.due(where + "fault()", x.fault(), model.fault());
        } else if (pick < 13) {
            check.due(where + "wipe()", x.wipe(), model.wipe());
        } else {
            check.due(where + "fault()", x.fault(), model.fault());
            check.due(where + "read()", x.read(), model.read());
            everything(where);
            if (below(2) == 0) {
                check.due(where + "wipe()", x.wipe(), model.wipe());
            }
        }
        longestText = Math.max(longestText, model.count(9));
    }

    private String chordText() {
        StringBuilder text = new StringBuilder(model.count(9) == 0 ? "" : ";");
        text.append(bass());
        if (below(2) == 0) {
            text.append('/').append(oneOf(FIGURES));
        }
        if (below(3) == 0) {
            text.append('=').append(below(100)).append(',').append(below(100)).append(',').append(below(100));
        }
        if (below(12) == 0) {
            text.setCharAt(below(text.length()), SIGNS.charAt(below(SIGNS.length())));
        }
        return text.toString();
    }

    private String noise() {
        StringBuilder text = new StringBuilder();
        int length = 1 + below(3);
        for (int i = 0; i < length; i++) {
            text.append(SIGNS.charAt(below(SIGNS.length())));
        }
        return below(5) == 0 ? text.toString() : ";";
    }

    private void putText(String where, String text) {
        for (int from = 0; from < text.length(); from += 8) {
            long characters = 0;
            for (char character : text.substring(from, Math.min(from + 8, text.length())).toCharArray()) {
                characters = characters << 8 | character;
            }
            check.due(where + "put(" + characters + ")", x.put(characters), model.put(characters));
        }
    }

    private void everything(String where) {
        if (callsLeft() < CALLS_OF_EVERYTHING + CALLS_OF_STEP || below(3) > 0) {
            return;
        }
        for (int what = 0; what <= 10; what++) {
            check.due(where + "then count(" + what + ")", x.count(what), model.count(what));
        }
        for (int chord = 0; chord < model.count(0); chord++) {
            askParallel(where, chord, 5);
            askParallel(where, chord, 6);
            for (int what = 0; what <= 9; what++) {
                if (what != 8) {
                    check.due(where + "then of(" + chord + ", " + what + ")", x.of(chord, what), model.of(chord, what));
                }
            }
        }
    }
}
