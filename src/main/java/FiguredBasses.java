/** Figured bass: chords over bass notes, their faults, their voicings, and the best voices for all of them. */
public final class FiguredBasses {
    public static final int NO_SUCH = -1, BAD_VALUE = -2, BAD_TEXT = -3, TOO_MANY = -4, NOT_POSSIBLE = -5, NONE = -6;
    public static final int KEY = 0, SPAN = 1, LEAP = 2;

    private static final int MOST_CHORDS = 10, MOST_CHARACTERS = 80, MOST_STATES = 6, SLOTS = 2;
    // No bass, figure, key and span have more voicings than this; test/VoicingTest.java tries them all.
    private static final int MOST_VOICINGS = 20;

    private static final int OCTAVE = 12, FIFTH = 7, UNISON = 0, HIGHEST_NOTE = 99;
    private static final int BASS = 0, TENOR = 1, ALTO = 2, SOPRANO = 3, VOICES = 4;
    private static final int FIFTHS_FAULT = 5, UNISONS_FAULT = 6;

    private static final int[] SCALE = {0, 2, 4, 5, 7, 9, 11};
    private static final int LEADING_STEP = 6;

    private static final int[] FIRST_SETTING = {0, 16, 7};
    private static final int[] LEAST_SETTING = {0, 7, 1};
    private static final int[] GREATEST_SETTING = {11, 24, 12};

    private static final int[] LOWEST_OF_VOICE = {36, 48, 53, 58};
    private static final int[] HIGHEST_OF_VOICE = {59, 67, 74, 79};

    // The upper voices of a chord are kept in one number, seven bits a note, the tenor in the highest ones:
    // sorting such numbers sorts voicings. With the bass above the tenor, the number tells all four voices.
    private static final int SILENT = -1, NOTE_BITS = 7, NOTE_MASK = 127;

    // Far above what ten chords can cost.
    private static final int ENDLESS = 1000000;

    private final Piece piece = new Piece();
    private final History history = new History();
    private final Piece[] slots = {new Piece(), new Piece()};
    private final boolean[] filled = new boolean[SLOTS];
    private final Pad pad = new Pad();
    private final PadReader reader = new PadReader();
    private final Voicings voicings = new Voicings();
    private final Realiser realiser = new Realiser();

    public FiguredBasses() {
    }

    // ---- changes

    public int set(int setting, int value) {
        if (!isSetting(setting) || value < LEAST_SETTING[setting] || value > GREATEST_SETTING[setting]) {
            return BAD_VALUE;
        }
        int previous = piece.setting(setting);
        history.record(piece);
        piece.change(setting, value);
        return previous;
    }

    public int chord(int at, int bass, int figure) {
        if (at < 0 || at > piece.size()) {
            return NO_SUCH;
        }
        if (!isBass(bass) || stepsOfFigure(figure) == 0) {
            return BAD_VALUE;
        }
        if (piece.size() >= MOST_CHORDS) {
            return TOO_MANY;
        }
        history.record(piece);
        piece.insert(at, bass, figure, SILENT);
        return piece.size();
    }

    public int takeOut(int chord) {
        if (!piece.has(chord)) {
            return NO_SUCH;
        }
        history.record(piece);
        piece.remove(chord);
        return piece.size();
    }

    public int voice(int chord, int tenor, int alto, int soprano) {
        int faults = ifVoiced(chord, tenor, alto, soprano);
        if (faults < 0) {
            return faults;
        }
        history.record(piece);
        piece.giveVoices(chord, packed(tenor, alto, soprano));
        return faults;
    }

    public int silence(int chord) {
        if (!piece.has(chord)) {
            return NO_SUCH;
        }
        if (!piece.isVoiced(chord)) {
            return NOT_POSSIBLE;
        }
        history.record(piece);
        piece.giveVoices(chord, SILENT);
        return Integer.bitCount(piece.voicedChords());
    }

    public int transpose(int by) {
        if (by < -OCTAVE || by > OCTAVE) {
            return BAD_VALUE;
        }
        if (!piece.canMove(by)) {
            return NOT_POSSIBLE;
        }
        history.record(piece);
        piece.move(by);
        return piece.setting(KEY);
    }

    public int realise() {
        int costs = realiser.leastCosts(piece);
        if (costs < 0) {
            return costs;
        }
        history.record(piece);
        realiser.giveVoicesTo(piece);
        return costs;
    }

    public int read() {
        if (reader.readAll(pad) != NONE) {
            return BAD_TEXT;
        }
        if (reader.told() > MOST_CHORDS) {
            return TOO_MANY;
        }
        if (!reader.hasGoodBasses()) {
            return BAD_VALUE;
        }
        history.record(piece);
        reader.giveChordsTo(piece);
        pad.empty();
        return piece.size();
    }

    // ---- what there is

    public int of(int chord, int what) {
        if (!piece.has(chord)) {
            return NO_SUCH;
        }
        switch (what) {
            case 0:
                return piece.bassOf(chord);
            case 1:
                return piece.figureOf(chord);
            case 2:
            case 3:
            case 4:
                return piece.isVoiced(chord) ? noteOf(piece.voicesOf(chord), what - 2 + TENOR) : NONE;
            case 5:
                return piece.tonesOf(chord);
            case 6:
                return Rules.faultsNow(piece, chord);
            case 7:
                return Rules.costNow(piece, chord);
            case 8:
                voicings.find(piece, chord);
                return voicings.size();
            case 9:
                return piece.stepOf(chord);
            default:
                return BAD_VALUE;
        }
    }

    public int voicing(int chord, int rank, int what) {
        if (!piece.has(chord)) {
            return NO_SUCH;
        }
        voicings.find(piece, chord);
        if (rank < 0 || rank >= voicings.size()) {
            return NO_SUCH;
        }
        if (what < 0 || what > 2) {
            return BAD_VALUE;
        }
        return noteOf(voicings.at(rank), what + TENOR);
    }

    public int count(int what) {
        switch (what) {
            case 0:
                return piece.size();
            case 1:
                return piece.voicedChords();
            case 2:
                return Rules.faultyChords(piece);
            case 3:
                return Rules.allFaults(piece);
            case 4:
                return Rules.allCosts(piece);
            case 5:
            case 6:
            case 7:
                return piece.setting(what - 5);
            case 8:
                return piece.highestSoprano();
            case 9:
                return pad.length();
            case 10:
                return history.size();
            default:
                return BAD_VALUE;
        }
    }

    public int parallel(int chord, int kind) {
        if (!piece.has(chord)) {
            return NO_SUCH;
        }
        if (kind != FIFTHS_FAULT && kind != UNISONS_FAULT) {
            return BAD_VALUE;
        }
        if (!piece.isVoiced(chord) || !piece.isVoiced(chord - 1)) {
            return NONE;
        }
        int interval = kind == FIFTHS_FAULT ? FIFTH : UNISON;
        return Rules.parallelPair(piece.allVoicesNow(chord - 1), piece.allVoicesNow(chord), interval);
    }

    // ---- what if; nothing changes

    public int ifRealised() {
        return realiser.leastCosts(piece);
    }

    public int nearest(int chord, int what) {
        if (!piece.has(chord)) {
            return NO_SUCH;
        }
        if (what < 0 || what > 3) {
            return BAD_VALUE;
        }
        if (!piece.isVoiced(chord - 1)) {
            return NOT_POSSIBLE;
        }
        int ahead = piece.voicesOf(chord - 1);
        voicings.find(piece, chord);
        int voices = voicings.nearestTo(piece, chord, ahead);
        if (voices == NONE) {
            return NONE;
        }
        return what == 3 ? distance(ahead, voices) : noteOf(voices, what + TENOR);
    }

    public int ifVoiced(int chord, int tenor, int alto, int soprano) {
        if (!piece.has(chord)) {
            return NO_SUCH;
        }
        if (!isNote(tenor) || !isNote(alto) || !isNote(soprano)) {
            return BAD_VALUE;
        }
        return Rules.faultsWith(piece, chord, packed(tenor, alto, soprano));
    }

    public int keys() {
        int keys = 0;
        for (int key = 0; key < OCTAVE; key++) {
            if (piece.isOnScaleOf(key)) {
                keys |= 1 << key;
            }
        }
        return keys;
    }

    // ---- texts

    public int put(long characters) {
        int many = Pad.charactersIn(characters);
        if (many == 0) {
            return BAD_VALUE;
        }
        if (pad.length() + many > MOST_CHARACTERS) {
            return TOO_MANY;
        }
        pad.append(characters, many);
        return pad.length();
    }

    public int wipe() {
        int length = pad.length();
        pad.empty();
        return length;
    }

    public int fault() {
        return reader.readAll(pad);
    }

    // ---- undo, saving

    public int undo() {
        if (history.size() == 0) {
            return NOT_POSSIBLE;
        }
        history.takeBack(piece);
        return history.size();
    }

    public int save(int slot) {
        if (!isSlot(slot)) {
            return BAD_VALUE;
        }
        slots[slot].copyFrom(piece);
        filled[slot] = true;
        return piece.size();
    }

    public int restore(int slot) {
        if (!isSlot(slot)) {
            return BAD_VALUE;
        }
        if (!filled[slot]) {
            return NOT_POSSIBLE;
        }
        history.record(piece);
        piece.copyFrom(slots[slot]);
        return piece.size();
    }

    // ---- small things about numbers

    private static boolean isSetting(int setting) {
        return setting >= 0 && setting < FIRST_SETTING.length;
    }

    private static boolean isSlot(int slot) {
        return slot >= 0 && slot < SLOTS;
    }

    private static boolean isBass(int note) {
        return note >= LOWEST_OF_VOICE[BASS] && note <= HIGHEST_OF_VOICE[BASS];
    }

    private static boolean isNote(int note) {
        return note >= 0 && note <= HIGHEST_NOTE;
    }

    /** The tone of a note; of the difference of two notes, what is left over by 12. */
    private static int toneOf(int note) {
        int left = note % OCTAVE;
        return left < 0 ? left + OCTAVE : left;
    }

    private static boolean isIn(int set, int member) {
        return (set >> member & 1) != 0;
    }

    /** The steps above the bass that a figure asks for, as a set with the bass itself; 0 if it is no figure. */
    private static int stepsOfFigure(int figure) {
        switch (figure) {
            case 5:
                return 1 | 1 << 2 | 1 << 4;
            case 6:
                return 1 | 1 << 2 | 1 << 5;
            case 64:
                return 1 | 1 << 3 | 1 << 5;
            case 7:
                return 1 | 1 << 2 | 1 << 4 | 1 << 6;
            default:
                return 0;
        }
    }

    private static int stepIn(int key, int note) {
        int aboveTonic = toneOf(note - key);
        for (int step = 0; step < SCALE.length; step++) {
            if (SCALE[step] == aboveTonic) {
                return step;
            }
        }
        return NONE;
    }

    private static int packed(int tenor, int alto, int soprano) {
        return (tenor << NOTE_BITS | alto) << NOTE_BITS | soprano;
    }

    private static int noteOf(int voices, int voice) {
        return voices >> NOTE_BITS * (SOPRANO - voice) & NOTE_MASK;
    }

    /** How far the upper voices are from others, together. */
    private static int distance(int voices, int others) {
        int sum = 0;
        for (int voice = TENOR; voice < VOICES; voice++) {
            sum += Math.abs(noteOf(voices, voice) - noteOf(others, voice));
        }
        return sum;
    }

    /** The settings and the chords: all that undo brings back and a slot keeps. */
    private static final class Piece {
        private final int[] settings = FIRST_SETTING.clone();
        private final int[] basses = new int[MOST_CHORDS];
        private final int[] figures = new int[MOST_CHORDS];
        private final int[] voices = new int[MOST_CHORDS];
        private int size;

        int size() {
            return size;
        }

        boolean has(int chord) {
            return chord >= 0 && chord < size;
        }

        int setting(int setting) {
            return isSetting(setting) ? settings[setting] : 0;
        }

        void change(int setting, int value) {
            if (isSetting(setting)) {
                settings[setting] = value;
            }
        }

        int bassOf(int chord) {
            return has(chord) ? basses[chord] : NONE;
        }

        int figureOf(int chord) {
            return has(chord) ? figures[chord] : NONE;
        }

        /** The upper voices, SILENT without. */
        int voicesOf(int chord) {
            return has(chord) ? voices[chord] : SILENT;
        }

        boolean isVoiced(int chord) {
            return voicesOf(chord) != SILENT;
        }

        /** The bass of a chord and the upper voices given, in one number. */
        int allVoices(int chord, int upperVoices) {
            int bass = has(chord) ? basses[chord] : 0;
            return bass << NOTE_BITS * SOPRANO | upperVoices;
        }

        int allVoicesNow(int chord) {
            return allVoices(chord, voicesOf(chord));
        }

        int leadingTone() {
            return toneOf(settings[KEY] + SCALE[LEADING_STEP]);
        }

        int stepOf(int chord) {
            return stepIn(settings[KEY], bassOf(chord));
        }

        int tonesOf(int chord) {
            int step = stepIn(settings[KEY], bassOf(chord));
            if (step == NONE) {
                return 0;
            }
            int steps = stepsOfFigure(figureOf(chord));
            int tones = 0;
            for (int up = 0; up < SCALE.length; up++) {
                if (isIn(steps, up)) {
                    tones |= 1 << toneOf(settings[KEY] + SCALE[(step + up) % SCALE.length]);
                }
            }
            return tones;
        }

        boolean isOnScaleOf(int key) {
            for (int chord = 0; chord < size; chord++) {
                if (stepIn(key, basses[chord]) == NONE) {
                    return false;
                }
            }
            return true;
        }

        int voicedChords() {
            int set = 0;
            for (int chord = 0; chord < size; chord++) {
                if (isVoiced(chord)) {
                    set |= 1 << chord;
                }
            }
            return set;
        }

        int highestSoprano() {
            int highest = NONE;
            for (int chord = 0; chord < size; chord++) {
                if (isVoiced(chord)) {
                    highest = Math.max(highest, noteOf(voices[chord], SOPRANO));
                }
            }
            return highest;
        }

        void insert(int at, int bass, int figure, int upperVoices) {
            if (at < 0 || at > size || size >= MOST_CHORDS) {
                return;
            }
            for (int chord = size; chord > at; chord--) {
                takeFrom(this, chord - 1, chord);
            }
            basses[at] = bass;
            figures[at] = figure;
            voices[at] = upperVoices;
            size++;
        }

        void remove(int at) {
            if (!has(at)) {
                return;
            }
            for (int chord = at; chord < size - 1; chord++) {
                takeFrom(this, chord + 1, chord);
            }
            size--;
        }

        void clear() {
            size = 0;
        }

        void giveVoices(int chord, int upperVoices) {
            if (has(chord)) {
                voices[chord] = upperVoices;
            }
        }

        boolean canMove(int by) {
            for (int chord = 0; chord < size; chord++) {
                if (!isBass(basses[chord] + by)) {
                    return false;
                }
                for (int voice = TENOR; isVoiced(chord) && voice < VOICES; voice++) {
                    if (!isNote(noteOf(voices[chord], voice) + by)) {
                        return false;
                    }
                }
            }
            return true;
        }

        void move(int by) {
            for (int chord = 0; chord < size; chord++) {
                basses[chord] += by;
                if (isVoiced(chord)) {
                    int old = voices[chord];
                    voices[chord] = packed(noteOf(old, TENOR) + by, noteOf(old, ALTO) + by, noteOf(old, SOPRANO) + by);
                }
            }
            settings[KEY] = toneOf(settings[KEY] + by);
        }

        void copyFrom(Piece other) {
            for (int setting = 0; setting < settings.length; setting++) {
                settings[setting] = other.settings[setting];
            }
            size = other.size;
            for (int chord = 0; chord < size; chord++) {
                takeFrom(other, chord, chord);
            }
        }

        private void takeFrom(Piece other, int from, int to) {
            basses[to] = other.basses[from];
            figures[to] = other.figures[from];
            voices[to] = other.voices[from];
        }
    }

    /** What is wrong with chords, and what they cost. Sets of faults have the bits 0 to 8. */
    private static final class Rules {
        static int faultsNow(Piece piece, int chord) {
            return piece.isVoiced(chord) ? faultsWith(piece, chord, piece.voicesOf(chord)) : 0;
        }

        /** The faults that a chord would have with the upper voices given. */
        static int faultsWith(Piece piece, int chord, int voices) {
            int all = piece.allVoices(chord, voices);
            int tones = piece.tonesOf(chord);
            int faults = ownFaults(piece, all, tones);
            if (piece.isVoiced(chord - 1)) {
                faults |= faultsBehind(piece, piece.allVoicesNow(chord - 1), all, tones);
            }
            return faults;
        }

        /** The faults 0 to 4 of a chord with the tones and the voices given. */
        static int ownFaults(Piece piece, int all, int tones) {
            int faults = 0;
            if (isOutOfPlace(all)) {
                faults |= 1;
            }
            if (isTooWide(all, piece.setting(SPAN))) {
                faults |= 1 << 1;
            }
            if (hasStrangeTone(all, tones)) {
                faults |= 1 << 2;
            }
            if (lacksTone(all, tones)) {
                faults |= 1 << 3;
            }
            if (doubles(all, piece.leadingTone())) {
                faults |= 1 << 4;
            }
            return faults;
        }

        /** The faults 5 to 8 of a chord with the tones and the voices given, behind a chord with others. */
        static int faultsBehind(Piece piece, int before, int now, int tones) {
            int faults = 0;
            if (parallelPair(before, now, FIFTH) != NONE) {
                faults |= 1 << FIFTHS_FAULT;
            }
            if (parallelPair(before, now, UNISON) != NONE) {
                faults |= 1 << UNISONS_FAULT;
            }
            if (leaps(before, now, piece.setting(LEAP))) {
                faults |= 1 << 7;
            }
            if (isIn(tones, piece.setting(KEY)) && holdsBack(before, now, piece.leadingTone())) {
                faults |= 1 << 8;
            }
            return faults;
        }

        private static boolean isOutOfPlace(int all) {
            for (int voice = TENOR; voice < VOICES; voice++) {
                int note = noteOf(all, voice);
                if (note < LOWEST_OF_VOICE[voice] || note > HIGHEST_OF_VOICE[voice] || note <= noteOf(all, voice - 1)) {
                    return true;
                }
            }
            return false;
        }

        private static boolean isTooWide(int all, int span) {
            int tenor = noteOf(all, TENOR);
            int alto = noteOf(all, ALTO);
            int soprano = noteOf(all, SOPRANO);
            return alto - tenor > OCTAVE || soprano - alto > OCTAVE || soprano - tenor > span;
        }

        private static boolean hasStrangeTone(int all, int tones) {
            for (int voice = TENOR; voice < VOICES; voice++) {
                if (!isIn(tones, toneOf(noteOf(all, voice)))) {
                    return true;
                }
            }
            return false;
        }

        private static boolean lacksTone(int all, int tones) {
            int lacking = tones;
            for (int voice = BASS; voice < VOICES; voice++) {
                lacking &= ~(1 << toneOf(noteOf(all, voice)));
            }
            return lacking != 0;
        }

        private static boolean doubles(int all, int tone) {
            int many = 0;
            for (int voice = BASS; voice < VOICES; voice++) {
                if (toneOf(noteOf(all, voice)) == tone) {
                    many++;
                }
            }
            return many > 1;
        }

        /** The first two voices that both move and keep an interval, as 4 * the lower and the upper one, or NONE. */
        static int parallelPair(int before, int now, int interval) {
            for (int lower = BASS; lower < SOPRANO; lower++) {
                if (noteOf(before, lower) == noteOf(now, lower)) {
                    continue;
                }
                for (int upper = lower + 1; upper < VOICES; upper++) {
                    if (noteOf(before, upper) != noteOf(now, upper)
                            && toneOf(noteOf(before, upper) - noteOf(before, lower)) == interval
                            && toneOf(noteOf(now, upper) - noteOf(now, lower)) == interval) {
                        return VOICES * lower + upper;
                    }
                }
            }
            return NONE;
        }

        private static boolean leaps(int before, int now, int most) {
            for (int voice = TENOR; voice < VOICES; voice++) {
                if (Math.abs(noteOf(now, voice) - noteOf(before, voice)) > most) {
                    return true;
                }
            }
            return false;
        }

        /** Whether an upper voice that had the leading tone has not risen by 1. */
        private static boolean holdsBack(int before, int now, int leadingTone) {
            for (int voice = TENOR; voice < VOICES; voice++) {
                int note = noteOf(before, voice);
                if (toneOf(note) == leadingTone && noteOf(now, voice) != note + 1) {
                    return true;
                }
            }
            return false;
        }

        static int costNow(Piece piece, int chord) {
            if (!piece.isVoiced(chord) || !piece.isVoiced(chord - 1)) {
                return 0;
            }
            return distance(piece.voicesOf(chord - 1), piece.voicesOf(chord));
        }

        static int allCosts(Piece piece) {
            int sum = 0;
            for (int chord = 0; chord < piece.size(); chord++) {
                sum += costNow(piece, chord);
            }
            return sum;
        }

        static int faultyChords(Piece piece) {
            int set = 0;
            for (int chord = 0; chord < piece.size(); chord++) {
                if (faultsNow(piece, chord) != 0) {
                    set |= 1 << chord;
                }
            }
            return set;
        }

        static int allFaults(Piece piece) {
            int sum = 0;
            for (int chord = 0; chord < piece.size(); chord++) {
                sum += Integer.bitCount(faultsNow(piece, chord));
            }
            return sum;
        }
    }

    /** The ways in which a chord can be voiced, sorted. */
    private static final class Voicings {
        private final int[] ways = new int[MOST_VOICINGS];
        private int size;

        int size() {
            return size;
        }

        int at(int rank) {
            return rank >= 0 && rank < size ? ways[rank] : SILENT;
        }

        void setOnly(int voices) {
            size = 0;
            add(voices);
        }

        void find(Piece piece, int chord) {
            size = 0;
            int tones = piece.tonesOf(chord);
            for (int tenor = LOWEST_OF_VOICE[TENOR]; tenor <= HIGHEST_OF_VOICE[TENOR]; tenor++) {
                // A strange tone is a fault anyway: to leave such notes out at once is only faster.
                if (!isOf(tones, tenor)) {
                    continue;
                }
                for (int alto = LOWEST_OF_VOICE[ALTO]; alto <= HIGHEST_OF_VOICE[ALTO]; alto++) {
                    if (!isOf(tones, alto)) {
                        continue;
                    }
                    for (int soprano = LOWEST_OF_VOICE[SOPRANO]; soprano <= HIGHEST_OF_VOICE[SOPRANO]; soprano++) {
                        int voices = packed(tenor, alto, soprano);
                        if (isOf(tones, soprano) && Rules.ownFaults(piece, piece.allVoices(chord, voices), tones) == 0) {
                            add(voices);
                        }
                    }
                }
            }
        }

        private static boolean isOf(int tones, int note) {
            return isIn(tones, toneOf(note));
        }

        private void add(int voices) {
            if (size < ways.length) {
                ways[size] = voices;
                size++;
            }
        }

        /** The voices with the least cost behind the voices given, the first of several, or NONE. */
        int nearestTo(Piece piece, int chord, int voicesAhead) {
            int before = piece.allVoices(chord - 1, voicesAhead);
            int tones = piece.tonesOf(chord);
            int best = NONE;
            int least = ENDLESS;
            for (int rank = 0; rank < size; rank++) {
                int cost = distance(voicesAhead, ways[rank]);
                if (cost < least && Rules.faultsBehind(piece, before, piece.allVoices(chord, ways[rank]), tones) == 0) {
                    best = ways[rank];
                    least = cost;
                }
            }
            return best;
        }
    }

    /** Finds the best voices for all chords, from the last chord to the first. */
    private static final class Realiser {
        private final Voicings[] choices = new Voicings[MOST_CHORDS];
        // What a chord's way costs at least with all that comes behind it, and the way of the next chord by which.
        private final int[][] costs = new int[MOST_CHORDS][MOST_VOICINGS];
        private final int[][] nexts = new int[MOST_CHORDS][MOST_VOICINGS];
        private int firstWay;

        Realiser() {
            for (int chord = 0; chord < MOST_CHORDS; chord++) {
                choices[chord] = new Voicings();
            }
        }

        int leastCosts(Piece piece) {
            if (piece.size() == 0) {
                return NOT_POSSIBLE;
            }
            gather(piece);
            for (int chord = piece.size() - 1; chord >= 0; chord--) {
                for (int way = 0; way < choices[chord].size(); way++) {
                    weigh(piece, chord, way);
                }
            }
            int least = ENDLESS;
            for (int way = 0; way < choices[0].size(); way++) {
                if (costs[0][way] < least) {
                    least = costs[0][way];
                    firstWay = way;
                }
            }
            return least < ENDLESS ? least : NOT_POSSIBLE;
        }

        private void gather(Piece piece) {
            for (int chord = 0; chord < piece.size(); chord++) {
                if (piece.isVoiced(chord)) {
                    choices[chord].setOnly(piece.voicesOf(chord));
                } else {
                    choices[chord].find(piece, chord);
                }
            }
        }

        /** Finds the cheapest way on from a way of a chord, the first of several. */
        private void weigh(Piece piece, int chord, int way) {
            int next = chord + 1;
            if (!piece.has(next)) {
                costs[chord][way] = 0;
                return;
            }
            int voices = choices[chord].at(way);
            int before = piece.allVoices(chord, voices);
            int tones = piece.tonesOf(next);
            boolean bothGiven = piece.isVoiced(chord) && piece.isVoiced(next);
            int least = ENDLESS;
            for (int other = 0; other < choices[next].size(); other++) {
                int then = choices[next].at(other);
                int cost = distance(voices, then) + costs[next][other];
                if (cost < least
                        && (bothGiven || Rules.faultsBehind(piece, before, piece.allVoices(next, then), tones) == 0)) {
                    least = cost;
                    nexts[chord][way] = other;
                }
            }
            costs[chord][way] = least;
        }

        /** Gives the voices found by leastCosts to the piece that it was asked about, if there were any. */
        void giveVoicesTo(Piece piece) {
            int way = firstWay;
            for (int chord = 0; chord < piece.size(); chord++) {
                if (way < 0 || way >= choices[chord].size()) {
                    return;
                }
                piece.giveVoices(chord, choices[chord].at(way));
                way = nexts[chord][way];
            }
        }
    }

    /** The states before the latest changes, the oldest one first. */
    private static final class History {
        private final Piece[] states = new Piece[MOST_STATES];
        private int size;

        History() {
            for (int state = 0; state < MOST_STATES; state++) {
                states[state] = new Piece();
            }
        }

        int size() {
            return size;
        }

        void record(Piece piece) {
            if (size == MOST_STATES) {
                dropOldest();
            }
            states[size].copyFrom(piece);
            size++;
        }

        private void dropOldest() {
            Piece oldest = states[0];
            for (int state = 1; state < MOST_STATES; state++) {
                states[state - 1] = states[state];
            }
            states[MOST_STATES - 1] = oldest;
            size = MOST_STATES - 1;
        }

        void takeBack(Piece piece) {
            if (size > 0) {
                size--;
                piece.copyFrom(states[size]);
            }
        }
    }

    /** The text that is put together. */
    private static final class Pad {
        private static final int CHARACTERS_IN_LONG = 8, CODE_BITS = 8, CODE_MASK = 255;
        private static final int LEAST_CODE = 33, GREATEST_CODE = 126;

        private final char[] text = new char[MOST_CHARACTERS];
        private int length;

        int length() {
            return length;
        }

        void empty() {
            length = 0;
        }

        /** The character at an index, 0 where the text has none. */
        char at(int index) {
            return index >= 0 && index < length ? text[index] : (char) 0;
        }

        /** How many characters a number tells, 0 if it does not tell characters. */
        static int charactersIn(long characters) {
            int many = 0;
            while (many < CHARACTERS_IN_LONG && codeIn(characters, many) != 0) {
                int code = codeIn(characters, many);
                if (code < LEAST_CODE || code > GREATEST_CODE) {
                    return 0;
                }
                many++;
            }
            boolean hasMore = many < CHARACTERS_IN_LONG && characters >>> CODE_BITS * many != 0;
            return hasMore ? 0 : many;
        }

        private static int codeIn(long characters, int fromLast) {
            return (int) (characters >>> CODE_BITS * fromLast) & CODE_MASK;
        }

        void append(long characters, int many) {
            for (int fromLast = many - 1; fromLast >= 0 && length < MOST_CHARACTERS; fromLast--) {
                text[length] = (char) codeIn(characters, fromLast);
                length++;
            }
        }
    }

    /** Reads the chords that a pad tells; it stops at the first character that cannot stand at its place. */
    private static final class PadReader {
        private static final int NO_NOTE = -1;

        private final int[] basses = new int[MOST_CHORDS];
        private final int[] figures = new int[MOST_CHORDS];
        private final int[] voices = new int[MOST_CHORDS];
        private int told;
        private int next;

        /** How many chords were told; of more than ten, only the first ten are kept. */
        int told() {
            return told;
        }

        /** Returns the fault of the pad, or NONE. */
        int readAll(Pad pad) {
            next = 0;
            told = 0;
            boolean good = readChord(pad);
            for (int more = 0; more < MOST_CHARACTERS && good && next < pad.length(); more++) {
                good = skip(pad, ';') && readChord(pad);
            }
            return good ? NONE : next;
        }

        private boolean readChord(Pad pad) {
            int bass = readNote(pad);
            if (bass == NO_NOTE) {
                return false;
            }
            int figure = skip(pad, '/') ? readFigure(pad) : 5;
            if (figure == 0) {
                return false;
            }
            int upperVoices = SILENT;
            if (skip(pad, '=')) {
                upperVoices = readVoices(pad);
                if (upperVoices == SILENT) {
                    return false;
                }
            }
            keep(bass, figure, upperVoices);
            return true;
        }

        private void keep(int bass, int figure, int upperVoices) {
            if (told < MOST_CHORDS) {
                basses[told] = bass;
                figures[told] = figure;
                voices[told] = upperVoices;
            }
            told++;
        }

        /** Returns the figure, 0 if there is none. */
        private int readFigure(Pad pad) {
            if (skip(pad, '5')) {
                return 5;
            }
            if (skip(pad, '7')) {
                return 7;
            }
            if (!skip(pad, '6')) {
                return 0;
            }
            return skip(pad, '4') ? 64 : 6;
        }

        /** Returns three notes, SILENT if there are not three. */
        private int readVoices(Pad pad) {
            int tenor = readNote(pad);
            if (tenor == NO_NOTE || !skip(pad, ',')) {
                return SILENT;
            }
            int alto = readNote(pad);
            if (alto == NO_NOTE || !skip(pad, ',')) {
                return SILENT;
            }
            int soprano = readNote(pad);
            return soprano == NO_NOTE ? SILENT : packed(tenor, alto, soprano);
        }

        private int readNote(Pad pad) {
            if (!isDigit(pad.at(next))) {
                return NO_NOTE;
            }
            int note = pad.at(next) - '0';
            next++;
            if (note > 0 && isDigit(pad.at(next))) {
                note = 10 * note + pad.at(next) - '0';
                next++;
            }
            return note;
        }

        private static boolean isDigit(char character) {
            return character >= '0' && character <= '9';
        }

        private boolean skip(Pad pad, char character) {
            if (pad.at(next) != character) {
                return false;
            }
            next++;
            return true;
        }

        boolean hasGoodBasses() {
            for (int chord = 0; chord < told && chord < MOST_CHORDS; chord++) {
                if (!isBass(basses[chord])) {
                    return false;
                }
            }
            return true;
        }

        void giveChordsTo(Piece piece) {
            piece.clear();
            for (int chord = 0; chord < told && chord < MOST_CHORDS; chord++) {
                piece.insert(chord, basses[chord], figures[chord], voices[chord]);
            }
        }
    }
}
