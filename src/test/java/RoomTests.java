import com.sun.management.ThreadMXBean;
import java.lang.management.ManagementFactory;

/** 512 calls of one kind after another stay far below the room of a run: no call but take() keeps anything new. */
public final class RoomTests {
    // 7.3 million fields and elements of at least one byte are the room; a run must stay far below it.
    private static final long MOST_BYTES = 400000;
    private static final int MOST_CALLS_OF_ACTION = 6;
    private static final ThreadMXBean BEAN = (ThreadMXBean) ManagementFactory.getThreadMXBean();
    private static final Checks CHECKS = new Checks("RoomTests");

    public static void main(String[] args) {
        measure("about", x -> x.about(0));
        measure("take and remove", x -> x.take() + x.remove(0));
        measure("take", x -> x.about(0) == 24 ? x.remove(0) : x.take());
        measure("again", x -> x.about(0) == 24 ? x.remove(0) : x.again(0));
        measure("learnAll", x -> x.learnAll());
        measure("forget", x -> x.forget());
        measure("simulate", x -> x.simulate(x.about(0), 30));
        measure("runScript", x -> x.runScript(4, 1000600040008999L));
        measure("costs", x -> x.about(3) + x.about(7) + x.saves() + x.wouldCost() + x.next(0, 2) + x.piece(0, 2, 2));
        measure("save and restore", x -> x.save(1) + x.restore(1));
        measure("undo", x -> x.learn() + x.undo());
        CHECKS.close();
    }

    private interface Action {
        int on(Log x);
    }

    private static void measure(String what, Action action) {
        run(action);
        long before = BEAN.getThreadAllocatedBytes(Thread.currentThread().getId());
        run(action);
        long bytes = BEAN.getThreadAllocatedBytes(Thread.currentThread().getId()) - before;
        CHECKS.dueTrue(what + " takes " + bytes + " bytes", bytes < MOST_BYTES);
        System.out.println("RoomTests, " + what + ": " + bytes + " bytes in 512 calls");
    }

    private static void run(Action action) {
        Log x = Log.of("get a 1=2");
        while (x.calls() < Log.MOST_CALLS - MOST_CALLS_OF_ACTION) {
            action.on(x);
        }
    }
}
