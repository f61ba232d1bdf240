import com.sun.management.ThreadMXBean;
import java.lang.management.ManagementFactory;

/** All calls of a run share one room, so calls that answer make nothing, and an object is small. */
public final class RoomTest {
    private static final int CALLS = 512;
    private static final long BYTES_PER_OBJECT = 20_000;
    /** Less than one object a call would take, with some room for what the measuring itself makes. */
    private static final long BYTES_PER_RUN = 5_000;

    public static void main(String[] args) {
        Check check = new Check();
        ThreadMXBean threads = (ThreadMXBean) ManagementFactory.getThreadMXBean();
        fill(new PuzzleRegistry());
        long start = threads.getCurrentThreadAllocatedBytes();
        PuzzleRegistry x = new PuzzleRegistry();
        long size = threads.getCurrentThreadAllocatedBytes() - start;
        check.holds("a new object is small, but takes " + size + " bytes", size < BYTES_PER_OBJECT);
        fill(x);
        x.end();
        useAll(x);
        long before = threads.getCurrentThreadAllocatedBytes();
        for (int call = 0; call < CALLS; call++) {
            useAll(x);
        }
        long made = threads.getCurrentThreadAllocatedBytes() - before;
        check.holds("calls make nothing, but made " + made + " bytes", made < BYTES_PER_RUN);
        check.finish();
    }

    private static void fill(PuzzleRegistry x) {
        for (int riddle = 0; riddle < 16; riddle++) {
            x.addRiddle(10, 0, 1, 9);
        }
        for (int team = 0; team < 8; team++) {
            x.addTeam();
        }
        for (int given = 0; given < 200; given++) {
            x.answer(given % 8, given / 8 % 16, 1 + given / 128);
        }
    }

    private static int useAll(PuzzleRegistry x) {
        return x.scoreAnew(0) + x.score(1) + x.place(2) + x.teamAt(7) + x.prize(3) + x.hanging(0)
            + x.price(1, 1) + x.openedAt(1, 1) + x.likeness(0, 1) + (x.isVoid(0, 0) ? 1 : 0);
    }
}
