import java.lang.management.ManagementFactory;

/** No call makes an object, so that many objects and calls live in one room. */
public final class RoomTest {
    /** With the first round and the DAY fewer than 512 calls for each object. */
    private static final int ROUNDS = 16;
    private static final int A_FEW_OBJECTS_OF_THE_MACHINE = 4096;

    private static int answers;

    public static void main(String[] args) {
        Check check = new Check();
        check.part("room");
        com.sun.management.ThreadMXBean threads = (com.sun.management.ThreadMXBean) ManagementFactory.getThreadMXBean();
        NineNames told = Check.object(9, 1, "ABCDEFGHABCDabcdef");
        NineNames asked = Check.object(9, 0, "A?B?C?D?efgh");
        round(told);
        round(asked);
        long thread = Thread.currentThread().getId();
        threads.getThreadAllocatedBytes(thread);
        long before = threads.getThreadAllocatedBytes(thread);
        for (int n = 0; n < ROUNDS; n++) {
            round(told);
            round(asked);
        }
        long bytes = threads.getThreadAllocatedBytes(thread) - before;
        check.due("all calls take " + bytes + " bytes", bytes < A_FEW_OBJECTS_OF_THE_MACHINE);
        check.due("some answers", answers != 0);
        check.end();
    }

    private static void round(NineNames x) {
        answers += x.set(0, 9) + x.set(1, 0) + x.say(97) + x.fault() + x.stands(-1, 0) + x.read(0) + x.seen(0);
        answers += x.missed(0) + x.hired(3, 0, 0) + x.cross(0, 0) + x.unseen(0) + x.look(0) + x.looks(1) + x.best(0);
        answers += x.stood(3) + x.forget() + x.sight(5, 2, true) + x.fits(-1) + x.could(0) + x.alibi(0) + x.gone(0);
        answers += x.out(0) + x.drawn(5, 99, 1) + x.image(0) + x.image(1) + x.restore(0) + x.told(0);
        x.hired(256, 8, 0);
    }
}
