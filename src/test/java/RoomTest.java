import java.lang.management.ManagementFactory;

/** All calls of one run live in one room: calls make nothing, and an object with its rows is small. */
public final class RoomTest {
    private static final Checks c = new Checks("RoomTest");
    // asked for once, as asking makes objects itself
    private static final com.sun.management.ThreadMXBean THREADS =
        (com.sun.management.ThreadMXBean) ManagementFactory.getThreadMXBean();

    public static void main(String[] args) {
        // the first time, the machine may make what it needs itself
        liveOnce();
        long bytes = liveOnce();
        // less than 8 bytes a call, and no object is as small
        c.due("512 calls make objects (" + bytes + " bytes)", bytes < 4000 ? 0 : 1, 0);
        long before = made();
        WaxCopies x = new WaxCopies();
        long size = made() - before;
        c.due("an object is large (" + size + " bytes)", size < 40000 && x.setting() == 3 ? 0 : 1, 0);
        c.end();
    }

    private static long made() {
        return THREADS.getCurrentThreadAllocatedBytes();
    }

    private static long liveOnce() {
        WaxCopies x = new WaxCopies();
        String text = "w;sa0=9;ca0>b0*2;pb0;xc";
        long answers = 0;
        long before = made();
        for (int round = 0; round < 12; round++) {
            for (int i = 0; i < text.length(); i++) {
                answers += x.append(text.charAt(i));
            }
            answers += x.firstError() + x.run() + x.keep(round % 2) + x.wind() + x.sharpen() + x.renew(0, 60);
            answers += x.renew(1, 50) + x.speak(20, 3) + x.copy(20, 8, 3) + x.play(20) + x.set(5) + x.goBack(round % 2);
            answers += x.undo() + x.chain(20, 5, 0) + x.chain(20, 5, 1) + x.digest() + x.digest();
        }
        long bytes = made() - before;
        if (answers == 0) {
            c.tell("no answers");
        }
        return bytes;
    }
}
