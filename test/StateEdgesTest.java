/** The edges of the promises 21 to 23: what can be undone, and what slots keep. */
public final class StateEdgesTest {
    private static final int LEAST = Integer.MIN_VALUE, GREATEST = Integer.MAX_VALUE;
    /** A piece with everything in it that a state has, and what tells that it is as it was. */
    private static final String PIECE = """
        set(0, 7)
        set(1, 20)
        set(2, 3)
        text 48/6=52,57,60;50/7;55/64=1,99,0
        read() 3
        """;
    private static final String AS_IT_WAS = """
        count(0) 3
        count(1) 5
        count(5) 7
        count(6) 20
        count(7) 3
        of(0, 0) 48
        of(0, 1) 6
        of(0, 2) 52
        of(0, 3) 57
        of(0, 4) 60
        of(1, 0) 50
        of(1, 1) 7
        of(1, 2) NONE
        of(2, 0) 55
        of(2, 1) 64
        of(2, 2) 1
        of(2, 3) 99
        of(2, 4) 0
        """;
    /** Each change, on the piece; realise has one of its own, as it cannot be done there. */
    private static final String[] CHANGES = {"set(0, 8)", "set(1, 7)", "set(2, 12)", "set(0, 7)", "chord(0, 36, 5)", "chord(3, 36, 5)",
        "chord(1, 36, 5)", "takeOut(0)", "takeOut(1)", "takeOut(2)", "voice(0, 52, 57, 60)", "voice(1, 0, 99, 50)", "voice(2, 3, 4, 5)",
        "silence(0)", "silence(2)", "transpose(0)", "read()", "restore(0)", "restore(1)"};

    private static final Edges edges = new Edges("StateEdgesTest");

    public static void main(String[] args) {
        nothingToUndo();
        eachChangeIsUndone();
        realiseIsUndone();
        sixStates();
        changesBehindUndo();
        whatIsNoChange();
        padSlotsAndHistoryStay();
        noSuchSlot();
        saveOfNothingAndOfAll();
        saveOverwrites();
        saveKeepsEverything();
        nothingSaved();
        restoreKeeps();
        restoreIsAChange();
        edges.end(21, 23);
    }

    // ---- undo

    private static void nothingToUndo() {
        edges.edge(21, "a new object", """
            undo() NOT_POSSIBLE
            undo() NOT_POSSIBLE
            count(10) 0
            """);
        edges.edge(21, "one change, undone once", """
            chord(0, 48, 5)
            count(10) 1
            undo() 0
            count(0) 0
            undo() NOT_POSSIBLE
            """);
        edges.edge(21, "only refused calls", """
            chord(1, 48, 5) NO_SUCH
            set(0, 12) BAD_VALUE
            realise() NOT_POSSIBLE
            read() BAD_TEXT
            restore(0) NOT_POSSIBLE
            undo() NOT_POSSIBLE
            """);
    }

    private static void eachChangeIsUndone() {
        for (String change : CHANGES) {
            edges.edge(21, change, PIECE + """
                save(0)
                save(1)
                count(10) 4
                text 36=1,2,3
                """ + change + "\ncount(10) 5\nundo() 4\n" + AS_IT_WAS);
        }
        edges.edge(21, "transpose by something", PIECE + """
            silence(2)
            takeOut(2)
            transpose(-12) 7
            of(0, 0) 36
            undo() 5
            of(0, 0) 48
            of(0, 2) 52
            of(1, 0) 50
            count(5) 7
            transpose(5) 0
            undo() 5
            count(5) 7
            of(1, 0) 50
            undo() 4
            of(2, 0) 55
            undo() 3
            """);
    }

    private static void realiseIsUndone() {
        edges.edge(21, "realise()", """
            text 48=60,64,67;53;55=59,62,67;48
            read() 4
            realise() 12
            count(1) 15
            undo() 1
            count(1) 5
            of(0, 2) 60
            of(1, 2) NONE
            of(2, 4) 67
            of(3, 2) NONE
            undo() 0
            count(0) 0
            """);
        edges.edge(21, "realise() of chords that all have upper voices", """
            text 48=55,60,64
            read() 1
            realise() 0
            undo() 1
            count(0) 1
            of(0, 2) 55
            undo() 0
            count(0) 0
            """);
    }

    private static void sixStates() {
        StringBuilder rows = new StringBuilder("count(10) 0\n");
        for (int change = 1; change <= 11; change++) {
            rows.append("set(0, ").append(change).append(") ").append(change - 1).append('\n');
            rows.append("count(10) ").append(Math.min(6, change)).append('\n');
            StringBuilder back = new StringBuilder(rows);
            for (int undone = 1; undone <= Math.min(6, change); undone++) {
                back.append("undo() ").append(Math.min(6, change) - undone).append('\n');
                back.append("count(5) ").append(change - undone).append('\n');
                back.append("count(10) ").append(Math.min(6, change) - undone).append('\n');
            }
            back.append("undo() NOT_POSSIBLE\ncount(5) ").append(Math.max(0, change - 6));
            edges.edge(21, change + " changes, all undone that can be", back.toString());
        }
        edges.edge(21, "states of one chord to ten", """
            chord(0, 36, 5) 1
            chord(1, 37, 6) 2
            chord(2, 38, 64) 3
            chord(3, 39, 7) 4
            chord(4, 40, 5) 5
            chord(5, 41, 6) 6
            chord(6, 42, 64) 7
            chord(7, 43, 7) 8
            chord(8, 44, 5) 9
            chord(9, 45, 6) 10
            undo() 5
            count(0) 9
            of(9, 0) NO_SUCH
            undo() 4
            undo() 3
            undo() 2
            undo() 1
            undo() 0
            count(0) 4
            of(3, 0) 39
            of(3, 1) 7
            of(4, 0) NO_SUCH
            undo() NOT_POSSIBLE
            """);
        edges.edge(21, "a full piece comes back", """
            text 36=1,2,3;37;38;39;40;41;42;43;44;45=4,5,6
            read() 10
            text 48
            read() 1
            undo() 1
            count(0) 10
            count(1) 513
            of(0, 2) 1
            of(9, 0) 45
            of(9, 4) 6
            """);
    }

    private static void changesBehindUndo() {
        edges.edge(21, "a change behind an undo cannot be done again", """
            set(0, 1)
            set(0, 2)
            set(0, 3)
            undo() 2
            undo() 1
            set(0, 9) 1
            count(10) 2
            undo() 1
            count(5) 1
            undo() 0
            count(5) 0
            undo() NOT_POSSIBLE
            """);
        edges.edge(21, "places that undo has left are full again", """
            set(0, 1)
            set(0, 2)
            set(0, 3)
            set(0, 4)
            set(0, 5)
            set(0, 6)
            set(0, 7)
            undo() 5
            undo() 4
            set(0, 8)
            set(0, 9)
            count(10) 6
            set(0, 10)
            count(10) 6
            undo() 5
            count(5) 9
            undo() 4
            count(5) 8
            undo() 3
            count(5) 5
            undo() 2
            count(5) 4
            undo() 1
            count(5) 3
            undo() 0
            count(5) 2
            undo() NOT_POSSIBLE
            """);
        edges.edge(21, "a refused call drops nothing from a full history", """
            set(0, 1)
            set(0, 2)
            set(0, 3)
            set(0, 4)
            set(0, 5)
            set(0, 6)
            set(0, 12) BAD_VALUE
            chord(1, 48, 5) NO_SUCH
            chord(0, 48, 1) BAD_VALUE
            takeOut(0) NO_SUCH
            voice(0, 1, 2, 3) NO_SUCH
            silence(0) NO_SUCH
            transpose(13) BAD_VALUE
            realise() NOT_POSSIBLE
            read() BAD_TEXT
            restore(1) NOT_POSSIBLE
            restore(2) BAD_VALUE
            save(2) BAD_VALUE
            put(0) BAD_VALUE
            count(10) 6
            """);
    }

    private static void whatIsNoChange() {
        edges.edge(21, "save, put and wipe are none", """
            set(0, 1)
            save(0)
            put('48')
            wipe()
            save(1)
            count(10) 1
            undo() 0
            count(5) 0
            """);
        edges.edge(21, "undo is none: it does not bring back what it undid", """
            set(0, 1)
            set(0, 2)
            undo() 1
            undo() 0
            count(5) 0
            undo() NOT_POSSIBLE
            """);
    }

    private static void padSlotsAndHistoryStay() {
        edges.edge(21, "the pad is as it was put since", """
            chord(0, 48, 5)
            put('50')
            undo() 0
            count(9) 2
            fault() NONE
            read() 1
            of(0, 0) 50
            """);
        edges.edge(21, "the pad that read has emptied stays empty", """
            put('50')
            read() 1
            undo() 0
            count(9) 0
            fault() 0
            """);
        edges.edge(21, "what was saved since stays saved", """
            chord(0, 48, 5)
            save(0) 1
            undo() 0
            restore(0) 1
            of(0, 0) 48
            """);
        edges.edge(21, "what was overwritten since stays overwritten", """
            save(0) 0
            chord(0, 48, 5)
            chord(1, 50, 5)
            save(0) 2
            undo() 1
            undo() 0
            restore(0) 2
            """);
    }

    // ---- save

    private static void noSuchSlot() {
        for (int slot : new int[] {-1, 2, LEAST, GREATEST}) {
            edges.edge(22, "no such slot", """
                save(%1$d) BAD_VALUE
                chord(0, 48, 5)
                save(0)
                save(1)
                save(%1$d) BAD_VALUE
                """.formatted(slot));
            edges.edge(23, "no such slot, with something saved and nothing", """
                restore(%1$d) BAD_VALUE
                chord(0, 48, 5)
                save(0)
                save(1)
                restore(%1$d) BAD_VALUE
                """.formatted(slot));
        }
    }

    private static void saveOfNothingAndOfAll() {
        for (int slot = 0; slot < 2; slot++) {
            edges.edge(22, "no chords", """
                save(%1$d) 0
                chord(0, 48, 5)
                restore(%1$d) 0
                count(0) 0
                """.formatted(slot));
            edges.edge(22, "ten chords", """
                text 36=1,2,3;37;38;39;40;41;42;43;44;45=4,5,6
                read() 10
                save(%1$d) 10
                text 48
                read() 1
                restore(%1$d) 10
                of(0, 0) 36
                of(0, 4) 3
                of(9, 0) 45
                of(9, 2) 4
                count(1) 513
                chord(0, 48, 5) TOO_MANY
                """.formatted(slot));
        }
    }

    private static void saveOverwrites() {
        edges.edge(22, "the slot that it is asked for, not the other one", """
            chord(0, 48, 5)
            save(0) 1
            chord(1, 50, 5)
            save(1) 2
            chord(2, 52, 5)
            restore(0) 1
            restore(1) 2
            chord(2, 53, 5)
            save(0) 3
            restore(1) 2
            restore(0) 3
            of(2, 0) 53
            """);
        edges.edge(22, "many chords by none", """
            text 48;50;52
            read()
            save(1) 3
            takeOut(0)
            takeOut(0)
            takeOut(0)
            save(1) 0
            undo()
            restore(1) 0
            """);
    }

    private static void saveKeepsEverything() {
        for (String change : CHANGES) {
            edges.edge(22, "what is saved stays as it is behind " + change, PIECE + """
                save(0) 3
                save(1) 3
                text 36=1,2,3
                """ + change + "\nrestore(0) 3\n" + AS_IT_WAS + "restore(1) 3\n" + AS_IT_WAS);
        }
        edges.edge(22, "not the pad, nor the history", """
            chord(0, 48, 5)
            put('50')
            save(0) 1
            put(';52')
            count(10) 1
            restore(0) 1
            count(9) 5
            count(10) 2
            read() 2
            restore(0) 1
            count(9) 0
            count(10) 4
            """);
        edges.edge(22, "no change", """
            save(0) 0
            save(1) 0
            count(10) 0
            undo() NOT_POSSIBLE
            """);
    }

    // ---- restore

    private static void nothingSaved() {
        edges.edge(23, "nothing saved at all", """
            restore(0) NOT_POSSIBLE
            restore(1) NOT_POSSIBLE
            chord(0, 48, 5)
            restore(0) NOT_POSSIBLE
            restore(1) NOT_POSSIBLE
            count(0) 1
            """);
        edges.edge(23, "nothing saved in the slot 1", """
            save(0) 0
            restore(1) NOT_POSSIBLE
            restore(0) 0
            """);
        edges.edge(23, "nothing saved in the slot 0", """
            save(1) 0
            restore(0) NOT_POSSIBLE
            restore(1) 0
            """);
        edges.edge(23, "a refused save has saved nothing", """
            save(2) BAD_VALUE
            save(-1) BAD_VALUE
            restore(0) NOT_POSSIBLE
            restore(1) NOT_POSSIBLE
            """);
    }

    private static void restoreKeeps() {
        edges.edge(23, "the slot keeps it, also when what is restored changes", PIECE + """
            save(0) 3
            takeOut(0)
            restore(0) 3
            takeOut(0)
            set(0, 0)
            voice(0, 1, 2, 3)
            transpose(0)
            restore(0) 3
            """ + AS_IT_WAS + """
            restore(0) 3
            """ + AS_IT_WAS);
        edges.edge(23, "what was saved last", """
            set(0, 1)
            save(1)
            set(0, 2)
            save(1)
            set(0, 3)
            restore(1) 0
            count(5) 2
            """);
        edges.edge(23, "the settings as they were", """
            save(0)
            set(0, 11)
            set(1, 24)
            set(2, 12)
            restore(0) 0
            count(5) 0
            count(6) 16
            count(7) 7
            """);
        edges.edge(23, "the pad stays", """
            put('48')
            save(0)
            put(';50')
            restore(0)
            count(9) 5
            read() 2
            """);
    }

    private static void restoreIsAChange() {
        edges.edge(23, "recorded, also if nothing is different", """
            save(0) 0
            restore(0) 0
            count(10) 1
            restore(0) 0
            count(10) 2
            undo() 1
            undo() 0
            undo() NOT_POSSIBLE
            """);
        edges.edge(23, "undone", PIECE + """
            save(0) 3
            text 36
            read() 1
            set(0, 0)
            restore(0) 3
            count(10) 6
            undo() 5
            count(0) 1
            count(5) 0
            of(0, 0) 36
            """);
        edges.edge(23, "the seventh change", """
            set(0, 1)
            set(0, 2)
            set(0, 3)
            set(0, 4)
            save(1) 0
            set(0, 5)
            set(0, 6)
            restore(1) 0
            count(10) 6
            count(5) 4
            undo() 5
            count(5) 6
            undo() 4
            undo() 3
            undo() 2
            undo() 1
            undo() 0
            count(5) 1
            undo() NOT_POSSIBLE
            """);
    }
}
