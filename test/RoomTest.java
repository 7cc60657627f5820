import java.lang.management.ManagementFactory;

/** All calls of a run live in one room: the calls make no objects, and an object is small. */
public final class RoomTest {
    private static final int OBJECTS = 200, CALLS = 500;
    private static final long BYTES_OF_OBJECT = 16000, BYTES_OF_ALL_CALLS = 1 << 20;

    public static void main(String[] args) {
        Check check = new Check("RoomTest");
        com.sun.management.ThreadMXBean threads = (com.sun.management.ThreadMXBean) ManagementFactory.getThreadMXBean();
        long me = Thread.currentThread().getId();
        FiguredBasses[] all = new FiguredBasses[OBJECTS];
        new FiguredBasses();
        long start = threads.getThreadAllocatedBytes(me);
        for (int i = 0; i < OBJECTS; i++) {
            all[i] = new FiguredBasses();
        }
        long made = threads.getThreadAllocatedBytes(me);
        check.holds("an object has " + (made - start) / OBJECTS + " bytes", made - start < OBJECTS * BYTES_OF_OBJECT);
        for (FiguredBasses x : all) {
            callAll(x);
        }
        long used = threads.getThreadAllocatedBytes(me) - made;
        check.holds("all calls made " + used + " bytes", used < BYTES_OF_ALL_CALLS);
        check.end();
    }

    /** Calls everything over and over, on a piece that is full. */
    private static void callAll(FiguredBasses x) {
        int[] basses = {48, 53, 55, 48, 45, 50, 43, 48, 41, 43};
        for (int chord = 0; chord < 10; chord++) {
            x.chord(chord, basses[chord], 5);
        }
        for (int call = 0; call < CALLS; call++) {
            switch (call % 16) {
                case 0 -> x.realise();
                case 1 -> x.undo();
                case 2 -> x.ifRealised();
                case 3 -> x.voice(call % 10, 52, 55, 60);
                case 4 -> x.nearest(call % 10, 3);
                case 5 -> x.count(call % 11);
                case 6 -> x.save(call % 2);
                case 7 -> x.restore(call % 2);
                case 8 -> x.put(0x34382f36343b3438L);
                case 9 -> x.fault();
                case 10 -> x.voicing(call % 10, 3, 1);
                case 11 -> x.silence(call % 10);
                case 12 -> x.of(call % 10, call % 10);
                case 13 -> x.keys();
                case 14 -> x.transpose(call % 3 - 1);
                default -> x.wipe();
            }
        }
    }
}
