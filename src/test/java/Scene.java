/** Short ways to set up a kernel and to look at it. */
final class Scene {

    static final int RUN = 0;
    static final int SLEEP = 1;
    static final int LOCK = 2;
    static final int UNLOCK = 3;
    static final int SIGNAL = 4;
    static final int AWAIT = 5;
    static final int YIELD = 6;

    static final int NEW = 0;
    static final int READY = 1;
    static final int RUNNING = 2;
    static final int ASLEEP = 3;
    static final int BLOCKED = 4;
    static final int AWAITING = 5;
    static final int DONE = 6;

    static final int[] WRONG_TASKS = {-1, 16, Integer.MIN_VALUE, Integer.MAX_VALUE};

    private Scene() {
    }

    /** A kernel of so many processors, the way 0, quantum 10, so that turns seldom end. */
    static BeadleKernel kernel(int processors) {
        BeadleKernel kernel = new BeadleKernel();
        kernel.setProcessors(processors);
        kernel.setWay(0, 10, 0);
        return kernel;
    }

    /** Adds a task with a program, told as code, n, code, n, .. */
    static int task(BeadleKernel kernel, int rank, int group, int rounds, int... steps) {
        int task = kernel.addTask(rank, group, rounds);
        for (int i = 0; i + 1 < steps.length; i += 2) {
            kernel.addStep(task, steps[i], steps[i + 1]);
        }
        return task;
    }

    /** The same, in group 0 with one round, and started. */
    static int started(BeadleKernel kernel, int rank, int... steps) {
        int task = task(kernel, rank, 0, 1, steps);
        kernel.start(task);
        return task;
    }

    /** Which tasks ran on a processor in the latest ticks, the oldest first: a digit each, '-' for idle, '.' for none. */
    static String ran(BeadleKernel kernel, int processor, int ticks) {
        StringBuilder text = new StringBuilder();
        for (int back = ticks; back >= 1; back--) {
            int task = kernel.ran(processor, back);
            text.append(task == -1 ? '-' : task == -2 ? '.' : Character.forDigit(task, 16));
        }
        return text.toString();
    }

    /** The states of all tasks, a digit each. */
    static String states(BeadleKernel kernel) {
        StringBuilder text = new StringBuilder();
        for (int task = 0; task < kernel.tasks(); task++) {
            text.append(kernel.stateOf(task));
        }
        return text.toString();
    }
}
