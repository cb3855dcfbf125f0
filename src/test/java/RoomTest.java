import java.lang.management.ManagementFactory;
import java.util.function.IntConsumer;

/** All calls of a run live in one room: a call that is not refused makes no object. */
public final class RoomTest {

    private static final int CALLS = 512;

    private final Checks checks = new Checks("RoomTest");
    private final com.sun.management.ThreadMXBean threads =
            (com.sun.management.ThreadMXBean) ManagementFactory.getThreadMXBean();

    public static void main(String[] args) {
        RoomTest test = new RoomTest();
        test.made();
        test.called();
        test.checks.close();
    }

    private long bytesOf(Runnable calls) {
        // Once for what the machine itself makes at a first call.
        calls.run();
        long before = threads.getCurrentThreadAllocatedBytes();
        calls.run();
        return threads.getCurrentThreadAllocatedBytes() - before;
    }

    private void made() {
        long bytes = bytesOf(BeadleKernel::new);
        checks.isTrue("a new object takes " + bytes + " bytes", bytes < 40_000);
    }

    private void called() {
        BeadleKernel k = new BeadleKernel();
        k.setProcessors(3);
        k.setWay(1, 1, 20);
        k.setQuota(2, 3);
        for (int i = 0; i < 16; i++) {
            k.start(Scene.task(k, i % 8, i % 4, 5, Scene.LOCK, i % 6, Scene.RUN, 3, Scene.LOCK, (i + 1) % 6,
                    Scene.SIGNAL, i % 6, Scene.AWAIT, (i + 1) % 6, Scene.RUN, 20));
        }
        takesNothing("tick", i -> k.tick(1));
        takesNothing("doneIn", i -> k.doneIn(i % 16, 60));
        takesNothing("doneWith", i -> k.doneWith(i % 16, i % 8, 60));
        takesNothing("idleIn", i -> k.idleIn(60));
        takesNothing("stuckIn", i -> k.stuckIn(60));
        takesNothing("digest", i -> k.digest());
        takesNothing("set", i -> k.setProcessors(1 + k.setWay(i % 3, 1 + i % 9, i % 50) % 3));
        takesNothing("lent", i -> k.lentKey(i % 16));
        takesNothing("end", i -> {
            if (k.stateOf(i % 16) != Scene.DONE) {
                k.end(i % 16);
            }
        });
    }

    private void takesNothing(String name, IntConsumer call) {
        long bytes = bytesOf(() -> {
            for (int i = 0; i < CALLS; i++) {
                call.accept(i);
            }
        });
        checks.isTrue(CALLS + " calls of " + name + " take " + bytes + " bytes", bytes < 4096);
    }
}
