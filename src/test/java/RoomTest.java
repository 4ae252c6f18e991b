import java.lang.management.ManagementFactory;

/** All calls of one run live in one room: what the dearest calls make is counted, in bytes. */
public final class RoomTest {
    private static final Check CHECK = new Check("RoomTest");
    private static final int CALLS = 512;

    interface Work {
        void on(LeastWished x);
    }

    public static void main(String[] args) {
        LeastWished warm = full();
        everything(warm);
        within("a new object", 40_000, x -> new LeastWished());
        within("searches", 1_000, x -> {
            for (int k = 0; k < CALLS; k++) {
                x.all();
            }
        });
        within("rides and days", 60 * CALLS, x -> {
            for (int k = 0; k < CALLS; k++) {
                x.ride();
                x.sign(0x723B7200);
                x.end(3);
                x.day();
                x.undo();
            }
        });
        within("all else", 1_000, x -> {
            for (int k = 0; k < CALLS / 16; k++) {
                everything(x);
            }
        });
        CHECK.end();
    }

    private static LeastWished full() {
        LeastWished x = new LeastWished();
        x.floors(9);
        x.crowd(7, 10);
        x.saw(0, 7, 1);
        x.saw(0, 11, 1);
        x.saw(0, 13, 2);
        x.saw(3, 511, 2);
        x.all();
        return x;
    }

    private static void everything(LeastWished x) {
        x.can();
        x.along(1);
        x.without(1);
        x.advise(0);
        x.rests(30);
        x.then(12);
        x.since(0);
        x.hinders(40);
        x.stuck();
        x.lies();
        x.truly(1);
        x.likely();
        x.split();
        x.keep(0);
        x.again(0);
        x.law();
    }

    private static void within(String what, long most, Work work) {
        LeastWished x = full();
        com.sun.management.ThreadMXBean bean = (com.sun.management.ThreadMXBean) ManagementFactory.getThreadMXBean();
        long id = Thread.currentThread().getId();
        work.on(x);
        long before = bean.getThreadAllocatedBytes(id);
        work.on(x);
        long made = bean.getThreadAllocatedBytes(id) - before;
        System.out.println("RoomTest: " + what + ": " + made + " bytes");
        CHECK.due(what + ": within " + most + " bytes", made <= most, true);
    }
}
