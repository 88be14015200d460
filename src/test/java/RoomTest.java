import com.sun.management.ThreadMXBean;
import java.lang.management.ManagementFactory;
import java.util.function.ToIntFunction;

/** LANGUAGE.md, rule 12: what a run makes is counted, so calls make little, and most of them nothing. */
public final class RoomTest {
    private static final int TIMES = 50;
    private static final Check CHECK = new Check("RoomTest");
    private static final ThreadMXBean THREADS = (ThreadMXBean) ManagementFactory.getThreadMXBean();

    public static void main(String[] args) {
        makesAtMost("row", 0, x -> x.row(3, 1, 40));
        makesAtMost("set", 0, x -> x.set(7, 0, 2));
        makesAtMost("copy", 0, x -> x.copy(7, 0, 7, 1, 2));
        makesAtMost("drop", 0, x -> x.drop(3));
        makesAtMost("feed", 0, x -> x.feed(32, 1));
        makesAtMost("fault", 0, CourtWash::fault);
        makesAtMost("hang", 0, x -> x.hang(5, 0));
        makesAtMost("take", 0, x -> x.take(5));
        makesAtMost("quarters", 0, x -> x.quarters(96));
        makesAtMost("lay", 0, x -> x.lay(1, 0));
        makesAtMost("piece", 0, x -> x.piece(1, 0));
        makesAtMost("line", 0, x -> x.line(1, 3));
        makesAtMost("dry", 0, CourtWash::dry);
        makesAtMost("plan", 0, x -> x.plan(4, -1) + x.take(0) + x.take(1) + x.take(3));
        makesAtMost("whose", 0, x -> x.whose(0, 0));
        makesAtMost("sun", 0, x -> x.sun(0, 0));
        makesAtMost("rings", 200, x -> x.rings(7, 3, 0));
        makesAtMost("rain", 0, x -> x.rain(10, 0));
        makesAtMost("image", 0, x -> x.image(1));
        makesAtMost("restore", 0, x -> x.restore(0));
        makesAtMost("kind", 0, x -> x.kind(0));
        makesAtMost("as", 40, x -> x.as(0, 1));
        makesAtMost("ask", 40, x -> x.ask(3, 1));
        makesAtMost("trace", 0, x -> x.trace(0));
        makesAtMost("count", 0, x -> x.count(4));
        makesAtMost("status", 0, CourtWash::status);
        makesAtMost("court", 1500, CourtWash::court);
        anObjectIsSmall();
        CHECK.end();
    }

    /** In bytes a call, on the mean; the first calls are not counted, as they load what Java itself needs. */
    private static void makesAtMost(String name, long bytes, ToIntFunction<CourtWash> call) {
        CourtWash x = Scene.whole();
        for (int i = 0; i < TIMES; i++) {
            call.applyAsInt(x);
        }
        long before = made();
        for (int i = 0; i < TIMES; i++) {
            call.applyAsInt(x);
        }
        long each = (made() - before - madeByAsking()) / TIMES;
        CHECK.that(name + " makes " + each + " bytes, at most " + bytes, each <= bytes);
    }

    private static void anObjectIsSmall() {
        CourtWash x = new CourtWash();
        long before = made();
        for (int i = 0; i < TIMES; i++) {
            x = new CourtWash();
        }
        long each = (made() - before - madeByAsking()) / TIMES;
        CHECK.that("an object is of " + each + " bytes, at most 8000", each <= 8000 && x.count(0) == 0);
    }

    private static long madeByAsking() {
        long first = made();
        return made() - first;
    }

    private static long made() {
        return THREADS.getThreadAllocatedBytes(Thread.currentThread().getId());
    }
}
