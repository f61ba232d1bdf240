import com.sun.management.ThreadMXBean;
import java.lang.management.ManagementFactory;

/** All calls of a run share one room, so calls that answer make nothing, and an object is small. */
public final class RoomTest {
    /** With the other calls some 512, all that an object is used for. */
    private static final int SCORES_ANEW = 220;
    /** Less than eight objects: each kind of call that changes something by its team is made for eight teams. */
    private static final long BYTES_OF_MEASURING = 100;
    private static final long BYTES_PER_OBJECT = 20_000;

    public static void main(String[] args) {
        Check check = new Check();
        ThreadMXBean threads = (ThreadMXBean) ManagementFactory.getThreadMXBean();
        play(new PuzzleRegistry());
        long start = threads.getCurrentThreadAllocatedBytes();
        PuzzleRegistry x = new PuzzleRegistry();
        long size = threads.getCurrentThreadAllocatedBytes() - start;
        check.holds("a new object is small, but takes " + size + " bytes", size < BYTES_PER_OBJECT);
        long before = threads.getCurrentThreadAllocatedBytes();
        play(x);
        long made = threads.getCurrentThreadAllocatedBytes() - before;
        check.holds("calls make nothing, but made " + made + " bytes", made < BYTES_OF_MEASURING);
        check.finish();
    }

    /** Each call of the face, and as many answers as there can be; none is refused, for an exception is an object. */
    private static void play(PuzzleRegistry x) {
        build(x);
        for (int given = 0; given < 192; given++) {
            x.answer(given % 8, given / 8 % 15, 1 + given / 120);
        }
        for (int team = 0; team < 8; team++) {
            x.hint(team, 13);
            x.answer(team, 0, 0);
            x.clear(team, 0);
            x.pardon(team, (team + 1) % 8);
        }
        x.pass(500);
        x.setBound(1);
        for (int call = 0; call < SCORES_ANEW; call++) {
            x.scoreAnew(call % 8);
        }
        x.end();
        lookAround(x);
    }

    private static void build(PuzzleRegistry x) {
        for (int riddle = 0; riddle < 16; riddle++) {
            x.addRiddle(10, 0, 1, 9);
        }
        x.need(15, 14);
        for (int team = 0; team < 8; team++) {
            x.addTeam();
            x.setPrize(team + 1, 1000);
        }
    }

    private static int lookAround(PuzzleRegistry x) {
        boolean told = x.isFree(0) | x.isVoid(0, 0) | x.isCheated(0, 0) | x.areLinked(0, 1);
        int sum = x.score(1) + x.place(2) + x.teamAt(7) + x.prize(3) + x.hanging(0) + x.price(1, 1)
            + x.openedAt(1, 1) + x.solvedAt(1, 0) + x.likeness(0, 1) + x.now();
        return told ? sum : -sum;
    }
}
