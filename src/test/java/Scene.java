import java.util.function.IntSupplier;

/** Short ways to set up a kernel and to look at it. */
final class Scene {

    static final int RUN = 0;
    static final int SLEEP = 1;
    static final int LOCK = 2;
    static final int UNLOCK = 3;
    static final int SIGNAL = 4;
    static final int AWAIT = 5;
    static final int YIELD = 6;

    static final int NEW = 0;
    static final int READY = 1;
    static final int RUNNING = 2;
    static final int ASLEEP = 3;
    static final int BLOCKED = 4;
    static final int AWAITING = 5;
    static final int DONE = 6;

    static final int[] WRONG_TASKS = {-1, 16, Integer.MIN_VALUE, Integer.MAX_VALUE};

    private Scene() {
    }

    /** A kernel of so many processors, the way 0, quantum 10, so that turns seldom end. */
    static BeadleKernel kernel(int processors) {
        BeadleKernel kernel = new BeadleKernel();
        kernel.setProcessors(processors);
        kernel.setWay(0, 10, 0);
        return kernel;
    }

    /** Adds a task with a program, told as code, n, code, n, .. */
    static int task(BeadleKernel kernel, int rank, int group, int rounds, int... steps) {
        int task = kernel.addTask(rank, group, rounds);
        for (int i = 0; i + 1 < steps.length; i += 2) {
            kernel.addStep(task, steps[i], steps[i + 1]);
        }
        return task;
    }

    /** The same, in group 0 with one round, and started. */
    static int started(BeadleKernel kernel, int rank, int... steps) {
        int task = task(kernel, rank, 0, 1, steps);
        kernel.start(task);
        return task;
    }

    /** Which tasks ran on a processor in the latest ticks, the oldest first: a digit each, '-' for idle, '.' for none. */
    static String ran(BeadleKernel kernel, int processor, int ticks) {
        StringBuilder text = new StringBuilder();
        for (int back = ticks; back >= 1; back--) {
            int task = kernel.ran(processor, back);
            text.append(task == -1 ? '-' : task == -2 ? '.' : Character.forDigit(task, 16));
        }
        return text.toString();
    }

    /** The states of all tasks, a digit each. */
    static String states(BeadleKernel kernel) {
        StringBuilder text = new StringBuilder();
        for (int task = 0; task < kernel.tasks(); task++) {
            text.append(kernel.stateOf(task));
        }
        return text.toString();
    }

    /** Three processors, and of each state a task: running, blocked, awaiting, asleep, done, ready and new, from 0 on. */
    static BeadleKernel busy(int way) {
        BeadleKernel kernel = new BeadleKernel();
        kernel.setProcessors(3);
        kernel.setWay(way, 2, 7);
        kernel.setQuota(3, 1);
        kernel.setPeriod(9);
        started(kernel, 3, LOCK, 0, LOCK, 1, RUN, 20, UNLOCK, 0, RUN, 3);
        kernel.tick(1);
        started(kernel, 2, LOCK, 0, RUN, 2);
        started(kernel, 4, AWAIT, 2, RUN, 2);
        kernel.tick(1);
        started(kernel, 5, SLEEP, 9, RUN, 2);
        started(kernel, 6, RUN, 1);
        kernel.tick(1);
        // Its quota is used up behind its first tick.
        kernel.start(task(kernel, 1, 3, 2, RUN, 20));
        kernel.tick(2);
        task(kernel, 7, 1, 5, RUN, 4, YIELD, 0);
        kernel.signal(4);
        kernel.signal(4);
        return kernel;
    }

    /** So many new tasks without steps. */
    static BeadleKernel fresh(int tasks) {
        BeadleKernel kernel = new BeadleKernel();
        for (int i = 0; i < tasks; i++) {
            kernel.addTask(i % 8, i % 4, 1 + i % 5);
        }
        return kernel;
    }

    /** What a kernel answers now and later, as one text; it is used up by this. */
    static String future(BeadleKernel kernel) {
        StringBuilder text = new StringBuilder();
        text.append(kernel.digest()).append(' ').append(kernel.load());
        for (int processor = 0; processor < kernel.processors(); processor++) {
            text.append(' ').append(ran(kernel, processor, 30));
        }
        for (int task = 0; task < kernel.tasks(); task++) {
            text.append(' ').append(kernel.doneWith(task, 3, 60));
        }
        text.append(' ').append(kernel.idleIn(60)).append(' ').append(kernel.stuckIn(60));
        startAll(kernel, text);
        for (int i = 0; i < 60; i++) {
            text.append(' ').append(kernel.tick(1)).append(' ').append(kernel.digest());
        }
        tellSettings(kernel, text);
        tellTasks(kernel, text);
        return text.toString();
    }

    private static void tellSettings(BeadleKernel kernel, StringBuilder text) {
        for (int way = 0; way <= 2; way++) {
            text.append(" way ").append(kernel.setWay(way, 1, 0)).append(' ').append(kernel.digest());
        }
        for (int group = 0; group < 4; group++) {
            text.append(" quota ").append(kernel.setQuota(group, 0));
        }
        text.append(" period ").append(kernel.setPeriod(1)).append(" processors ").append(kernel.setProcessors(1));
        for (int event = 0; event < 6; event++) {
            text.append(" number ").append(kernel.signal(event));
        }
    }

    private static void tellTasks(BeadleKernel kernel, StringBuilder text) {
        for (int task = 0; task < kernel.tasks(); task++) {
            text.append(" rank ").append(kernel.setRank(task, 0));
        }
        text.append(" next ").append(answer(() -> kernel.addTask(0, 0, 1)));
    }

    /** Starts what is new, with a step more, so that its program and its rounds show. */
    private static void startAll(BeadleKernel kernel, StringBuilder text) {
        for (int i = 0; i < kernel.tasks(); i++) {
            int task = i;
            if (kernel.stateOf(task) == NEW) {
                text.append(" steps ").append(answer(() -> kernel.addStep(task, RUN, 1)));
                text.append(" stand ").append(answer(() -> kernel.start(task)));
            }
        }
    }

    static String answer(IntSupplier call) {
        try {
            return String.valueOf(call.getAsInt());
        } catch (RuntimeException e) {
            return e.getClass().getSimpleName();
        }
    }
}
