/** The edges of the promises 18 to 20: put, wipe and fault, with every character at every place of a text. */
public final class TextEdgesTest {
    private static final String EIGHTY = "48/64=52,55,60;48/64=52,55,60;48/64=52,55,60;48/64=52,55,60;48/64=52,55,60;48/64";
    private static final String DIGITS = "0123456789";

    private static final Edges edges = new Edges("TextEdgesTest");

    public static void main(String[] args) {
        putHowMany();
        putCodes();
        putGaps();
        putWhenFull();
        wipe();
        faultOfNotes();
        faultOfFigures();
        faultOfVoices();
        faultOfChords();
        faultAtTheEnds();
        everyCharacter();
        edges.end(18, 20);
    }

    // ---- put

    private static void putHowMany() {
        edges.edge(18, "no characters", "put(0) BAD_VALUE");
        edges.edge(18, "one character", """
            put('5') 1
            count(9) 1
            fault() NONE
            """);
        for (int length = 1; length <= 8; length++) {
            String text = "36/6=1,2".substring(0, length);
            edges.edge(18, length + " characters, in their order", """
                put('%1$s') %2$d
                count(9) %2$d
                text %3$s
                count(9) 10
                fault() NONE
                read() 1
                of(0, 0) 36
                of(0, 1) 6
                of(0, 2) 1
                of(0, 3) 2
                of(0, 4) 3
                """.formatted(text, length, "36/6=1,2,3".substring(length)));
        }
    }

    private static void putCodes() {
        for (int code : new int[] {33, 34, 48, 125, 126}) {
            edges.edge(18, "code " + code, "put(" + code + ") 1");
        }
        for (int code : new int[] {1, 31, 32, 127, 128, 161, 254, 255}) {
            for (int length = 1; length <= 8; length++) {
                for (int place = 0; place < length; place++) {
                    long characters = Caller.packed("12345678".substring(0, length));
                    characters &= ~(255L << 8 * place);
                    characters |= (long) code << 8 * place;
                    edges.edge(18, "code " + code + " at " + place, "put(" + characters + ") BAD_VALUE");
                }
            }
        }
        edges.edge(18, "the least and the greatest code eight times", """
            put(%d) 8
            put(%d) 16
            fault() 0
            """.formatted(0x2121212121212121L, 0x7e7e7e7e7e7e7e7eL));
        for (long number : new long[] {-1L, Long.MIN_VALUE, Long.MAX_VALUE, Integer.MIN_VALUE, Integer.MAX_VALUE, 1L << 63 | 53}) {
            edges.edge(18, "a number far out", "put(" + number + ") BAD_VALUE");
        }
    }

    private static void putGaps() {
        for (int place = 0; place < 7; place++) {
            long below = Caller.packed("5555555".substring(0, place));
            for (int above = place + 1; above < 8; above++) {
                edges.edge(18, "a character above a gap", "put(" + (below | 53L << 8 * above) + ") BAD_VALUE");
            }
            for (int bit = 8 * place + 8; bit < 64; bit++) {
                edges.edge(18, "a bit above a gap", "put(" + (below | 1L << bit) + ") BAD_VALUE");
            }
        }
    }

    private static void putWhenFull() {
        String seventyNine = EIGHTY.substring(0, 79);
        edges.edge(18, "80 characters, and one more", """
            text %s
            count(9) 79
            put('44') TOO_MANY
            put('4') 80
            put('5') TOO_MANY
            put('12345678') TOO_MANY
            count(9) 80
            read() 6
            put('5') 1
            """.formatted(seventyNine));
        edges.edge(18, "eight that fit, eight of which one is too many", """
            text %s
            put('12345678') TOO_MANY
            put('1234567') 80
            wipe() 80
            text %s
            put('12345678') 80
            """.formatted(EIGHTY.substring(0, 73), EIGHTY.substring(0, 72)));
        edges.edge(18, "BAD_VALUE ahead of TOO_MANY", """
            text %s
            put(0) BAD_VALUE
            put(32) BAD_VALUE
            put(127) BAD_VALUE
            put(%d) BAD_VALUE
            put(53) TOO_MANY
            """.formatted(EIGHTY, 53 << 16 | 53));
        edges.edge(18, "characters that cannot stand there are taken", """
            put('~!~!') 4
            fault() 0
            read() BAD_TEXT
            """);
        edges.edge(18, "no change", """
            put('48') 2
            count(10) 0
            undo() NOT_POSSIBLE
            """);
    }

    // ---- wipe

    private static void wipe() {
        edges.edge(19, "an empty pad, again and again", """
            wipe() 0
            wipe() 0
            count(10) 0
            """);
        edges.edge(19, "one character", """
            put('5') 1
            wipe() 1
            count(9) 0
            fault() 0
            wipe() 0
            """);
        edges.edge(19, "80 characters", """
            text %s
            wipe() 80
            count(9) 0
            read() BAD_TEXT
            text %s
            read() 6
            """.formatted(EIGHTY, EIGHTY));
        edges.edge(19, "nothing of the old text is left", """
            text 48=52,55,60
            wipe() 11
            text 50
            read() 1
            of(0, 0) 50
            of(0, 2) NONE
            """);
        edges.edge(19, "no change, chords and slots stay", """
            chord(0, 48, 5)
            save(0)
            put('5')
            wipe() 1
            count(10) 1
            count(0) 1
            takeOut(0)
            restore(0) 1
            """);
        edges.edge(19, "a pad that read has emptied", """
            put('48')
            read() 1
            wipe() 0
            """);
    }

    // ---- fault

    private static void fault(String text, Object fault) {
        edges.edge(20, text, (text.isEmpty() ? "" : "text " + text + "\n") + "fault() " + fault + "\ncount(9) " + text.length());
    }

    private static void faultOfNotes() {
        fault("", 0);
        fault("0", "NONE");
        fault("9", "NONE");
        fault("10", "NONE");
        fault("99", "NONE");
        fault("100", 2);
        fault("990", 2);
        fault("999", 2);
        fault("480", 2);
        fault("00", 1);
        fault("01", 1);
        fault("09", 1);
        fault("048", 1);
        fault("-1", 0);
        fault("+1", 0);
        fault("4.", 1);
        fault("/", 0);
        fault(":", 0);
        fault("x", 0);
        fault("=1,2,3", 0);
    }

    private static void faultOfFigures() {
        fault("48/", 3);
        fault("48/5", "NONE");
        fault("48/6", "NONE");
        fault("48/64", "NONE");
        fault("48/7", "NONE");
        fault("48/4", 3);
        fault("48/8", 3);
        fault("48/0", 3);
        fault("48/05", 3);
        fault("48/=", 3);
        fault("48/;", 3);
        fault("48//", 3);
        fault("48/50", 4);
        fault("48/54", 4);
        fault("48/55", 4);
        fault("48/63", 4);
        fault("48/65", 4);
        fault("48/66", 4);
        fault("48/70", 4);
        fault("48/74", 4);
        fault("48/640", 5);
        fault("48/644", 5);
        fault("48/5/5", 4);
        fault("48/64/64", 5);
    }

    private static void faultOfVoices() {
        fault("48=", 3);
        fault("48=1", 4);
        fault("48=1,", 5);
        fault("48=1,2", 6);
        fault("48=1,2,", 7);
        fault("48=1,2,3", "NONE");
        fault("48=0,0,0", "NONE");
        fault("48=99,99,99", "NONE");
        fault("48=100,1,1", 5);
        fault("48=1,100,1", 7);
        fault("48=1,1,100", 9);
        fault("48=00,1,1", 4);
        fault("48=1,01,1", 6);
        fault("48=1,1,09", 8);
        fault("48=,1,1", 3);
        fault("48=1,,1", 5);
        fault("48=1,1,,", 7);
        fault("48=1;50", 4);
        fault("48=1,2;50", 6);
        fault("48=1,2,;50", 7);
        fault("48=1,2,3,4", 8);
        fault("48=1,2,3/5", 8);
        fault("48=1,2,3=1", 8);
        fault("48=1/5", 4);
        fault("48,1,2,3", 2);
        fault("48/64=1,2,3", "NONE");
        fault("48/5=1", 6);
        fault("0/5=0,0,0", "NONE");
    }

    private static void faultOfChords() {
        fault(";", 0);
        fault("48;", 3);
        fault("48;;", 3);
        fault("48;50", "NONE");
        fault("48;50;", 6);
        fault(";48", 0);
        fault("48/7;50=1,2,3;52", "NONE");
        fault("48=1,2,3;x", 9);
        fault("48;/", 3);
        fault("48;=", 3);
        fault("48;00", 4);
        fault("48;100", 5);
        fault("1;1;1;1;1;1;1;1;1;1", "NONE");
        fault("1;1;1;1;1;1;1;1;1;1;1", "NONE");
        fault("1;1;1;1;1;1;1;1;1;1;1;", 22);
        fault("1;1;1;1;1;1;1;1;1;1;1;x", 22);
        // The first fault of several.
        fault("48x;x", 2);
        fault("x48/9", 0);
        fault("48/9;100", 3);
    }

    private static void faultAtTheEnds() {
        fault(EIGHTY, "NONE");
        fault(EIGHTY.substring(0, 79), "NONE");
        fault(EIGHTY.substring(0, 78), 78);
        fault(EIGHTY.substring(0, 79) + "=", 80);
        fault(EIGHTY.substring(0, 79) + ";", 80);
        fault(EIGHTY.substring(0, 78) + "5,", 79);
        fault(EIGHTY.substring(0, 79) + "x", 79);
        fault("x" + EIGHTY.substring(1), 0);
        fault(EIGHTY.substring(0, 75) + "1=1,2", 80);
        fault(EIGHTY.substring(0, 75) + "1=1,;", 79);
        fault("1;".repeat(40), 80);
        fault("1;".repeat(39) + "11", "NONE");
        fault("1;".repeat(39) + "00", 79);
        edges.edge(20, "texts that go on", """
            fault() 0
            put('4')
            fault() NONE
            put('8')
            fault() NONE
            put('/')
            fault() 3
            put('6')
            fault() NONE
            put('4')
            fault() NONE
            put('4')
            fault() 5
            put('4')
            fault() 5
            wipe() 7
            fault() 0
            count(10) 0
            """);
    }

    /** What may follow each beginning; with a dot ahead, if the beginning is no whole text. */
    private static final String[][] FOLLOWING = {
        {"", "." + DIGITS},
        {"0", "/=;"},
        {"1", DIGITS + "/=;"},
        {"9", DIGITS + "/=;"},
        {"10", "/=;"},
        {"99", "/=;"},
        {"48/", ".567"},
        {"48/5", "=;"},
        {"48/6", "4=;"},
        {"48/64", "=;"},
        {"48/7", "=;"},
        {"48=", "." + DIGITS},
        {"48/7=", "." + DIGITS},
        {"48=0", ".,"},
        {"48=9", ".," + DIGITS},
        {"48=99", ".,"},
        {"48=1,", "." + DIGITS},
        {"48=1,0", ".,"},
        {"48=1,2", ".," + DIGITS},
        {"48=1,22", ".,"},
        {"48=1,2,", "." + DIGITS},
        {"48=1,2,0", ";"},
        {"48=1,2,3", ";" + DIGITS},
        {"48=1,2,33", ";"},
        {"48;", "." + DIGITS},
        {"48;0", "/=;"},
        {"48;5", DIGITS + "/=;"},
        {"48;50", "/=;"},
        {"48;50/", ".567"},
        {"48/6;50/64=1,22,0", ";"}};

    private static void everyCharacter() {
        for (String[] beginning : FOLLOWING) {
            String text = beginning[0];
            boolean whole = !beginning[1].startsWith(".");
            fault(text, whole ? "NONE" : text.length());
            for (char character = 33; character <= 126; character++) {
                if (beginning[1].indexOf(character, whole ? 0 : 1) < 0) {
                    cannotFollow(text, character);
                } else {
                    canFollow(text, character);
                }
            }
        }
    }

    private static void cannotFollow(String text, char character) {
        edges.edge(20, character + " cannot follow " + text, (text.isEmpty() ? "" : "text " + text + "\n") + """
            put(%d)
            fault() %d
            count(9) %d
            """.formatted((int) character, text.length(), text.length() + 1));
    }

    /** The text with the character is whole, or it ends too early: its fault is not ahead of its end. */
    private static void canFollow(String text, char character) {
        FiguredBasses x = new FiguredBasses();
        for (char one : (text + character).toCharArray()) {
            x.put(one);
        }
        int fault = x.fault();
        edges.holds("20, " + character + " can follow " + text, fault == FiguredBasses.NONE || fault == text.length() + 1);
    }
}
