/** What would be: each forecast against what then comes, its edges, and that it changes nothing. */
public final class ForecastTest {

    private static final Class<IllegalArgumentException> ARGUMENT = IllegalArgumentException.class;
    private static final Class<IndexOutOfBoundsException> INDEX = IndexOutOfBoundsException.class;

    private final Checks checks = new Checks("ForecastTest");

    public static void main(String[] args) {
        ForecastTest test = new ForecastTest();
        test.wrongTicks();
        test.doneIn();
        test.doneInOfAll();
        test.doneWith();
        test.doneWithByTime();
        test.idleIn();
        test.stuckIn();
        test.nothingIsChanged();
        test.againAndAgain();
        test.fromTheMidst();
        test.checks.close();
    }

    private void wrongTicks() {
        BeadleKernel k = Scene.kernel(1);
        Scene.started(k, 0, Scene.RUN, 1);
        for (int wrong : new int[] {0, 61, -1, Integer.MIN_VALUE, Integer.MAX_VALUE}) {
            checks.refused("35 ticks " + wrong, k, ARGUMENT, () -> k.doneIn(0, wrong));
            checks.refused("35 the index is named first", k, INDEX, () -> k.doneIn(1, wrong));
            checks.refused("36 ticks " + wrong, k, ARGUMENT, () -> k.doneWith(0, 0, wrong));
            checks.refused("36 the index is named first", k, INDEX, () -> k.doneWith(-1, 0, wrong));
            checks.refused("37 ticks " + wrong, k, ARGUMENT, () -> k.idleIn(wrong));
            checks.refused("38 ticks " + wrong, k, ARGUMENT, () -> k.stuckIn(wrong));
        }
        for (int wrong : new int[] {-1, 8, Integer.MIN_VALUE, Integer.MAX_VALUE}) {
            checks.refused("36 rank " + wrong, k, ARGUMENT, () -> k.doneWith(0, wrong, 1));
            checks.refused("36 the index is named first", k, INDEX, () -> k.doneWith(1, wrong, 1));
        }
        k.end(0);
        checks.refused("35 ticks of one that is done", k, ARGUMENT, () -> k.doneIn(0, 61));
        checks.refused("36 rank of one that is done", k, ARGUMENT, () -> k.doneWith(0, 8, 1));
    }

    private void doneIn() {
        BeadleKernel k = Scene.kernel(1);
        int task = Scene.task(k, 0, 0, 1, Scene.RUN, 20, Scene.RUN, 20, Scene.RUN, 20);
        checks.same("35 a new one never", k.doneIn(task, 60), -1);
        k.start(task);
        checks.same("35 in just so many", k.doneIn(task, 60), 60);
        checks.same("35 not within one less", k.doneIn(task, 59), -1);
        checks.same("35 not within 1", k.doneIn(task, 1), -1);
        k.tick(40);
        k.tick(19);
        checks.same("35 the next one", k.doneIn(task, 1), 1);
        checks.same("35 behind the first of 60", k.doneIn(task, 60), 1);
        k.tick(1);
        checks.same("35 it is", k.doneIn(task, 1), 0);
        checks.same("35 it is", k.doneIn(task, 60), 0);
        int fresh = k.addTask(0, 0, 1);
        k.end(fresh);
        checks.same("35 ended", k.doneIn(fresh, 1), 0);
    }

    private void doneInOfAll() {
        doneAsTold(mixed());
    }

    private void doneWith() {
        BeadleKernel k = Scene.kernel(1);
        Scene.started(k, 4, Scene.RUN, 5);
        Scene.started(k, 5, Scene.RUN, 3);
        k.tick(1);
        checks.same("35 behind the other", k.doneIn(1, 60), 7);
        checks.same("36 its own rank", k.doneWith(1, 5, 60), 7);
        checks.same("36 ahead of the other", k.doneWith(1, 3, 60), 3);
        checks.same("36 just so many", k.doneWith(1, 0, 3), 3);
        checks.same("36 not within 2", k.doneWith(1, 0, 2), -1);
        checks.same("36 the same rank, but the other is running", k.doneWith(1, 4, 60), 7);
        checks.same("36 only this one's rank", k.doneWith(0, 7, 60), 7);
        checks.same("36 the rank itself stays", k.keyOf(0) * 10 + k.keyOf(1), 45);
        k.end(1);
        checks.same("36 it is", k.doneWith(1, 0, 1), 0);
    }

    private void doneWithByTime() {
        BeadleKernel k = Scene.kernel(1);
        k.setWay(2, 1, 0);
        Scene.started(k, 7, Scene.RUN, 3);
        Scene.started(k, 7, Scene.RUN, 9);
        // 840 a tick each: 0 1 1 0 0, as the one that is running comes first at the same key.
        checks.same("35 by turns", k.doneIn(0, 60), 5);
        // 105 a tick: 0 1 0 0.
        checks.same("36 with a slower time", k.doneWith(0, 0, 60), 4);
        // 105 a tick: 0, and then 1 up to its 840, and once more, as it is running.
        checks.same("36 of the other", k.doneWith(1, 0, 60), 10);
        checks.same("35 of the other", k.doneIn(1, 60), 12);
    }

    private void idleIn() {
        BeadleKernel k = Scene.kernel(3);
        checks.same("37 nobody", k.idleIn(60), 180);
        checks.same("37 one tick", k.idleIn(1), 3);
        Scene.started(k, 4, Scene.RUN, 5, Scene.SLEEP, 10, Scene.RUN, 5);
        Scene.started(k, 5, Scene.RUN, 3);
        k.tick(2);
        checks.same("37 told so far", k.idle(), 2);
        checks.same("37 one tick", k.idleIn(1), 1);
        // Of 180: 3 and 5 ticks of the one, 1 tick of the other.
        checks.same("37 all ticks together", k.idleIn(60), 171);
        int told = k.idleIn(20);
        int before = k.idle();
        k.tick(20);
        checks.same("37 as it came", k.idle() - before, told);
    }

    private void stuckIn() {
        BeadleKernel k = Scene.kernel(2);
        Scene.started(k, 3, Scene.LOCK, 0, Scene.RUN, 5, Scene.LOCK, 1, Scene.RUN, 1);
        Scene.started(k, 3, Scene.LOCK, 1, Scene.RUN, 7, Scene.LOCK, 0, Scene.RUN, 1);
        checks.same("38 behind the tick 7", k.stuckIn(60), 8);
        checks.same("38 just so many", k.stuckIn(8), 8);
        checks.same("38 not within 7", k.stuckIn(7), -1);
        k.tick(7);
        checks.same("38 one is blocked", k.blocked(1), 1);
        checks.same("38 the next one", k.stuckIn(1), 1);
        k.tick(1);
        checks.same("38 it is", k.stuckIn(1), 0);
        checks.same("38 it is", k.stuckIn(60), 0);
        k.end(0);
        checks.same("38 none", k.stuckIn(60), -1);
    }

    private void nothingIsChanged() {
        BeadleKernel k = mixed();
        BeadleKernel same = mixed();
        for (int i = 0; i < 40; i++) {
            long before = k.digest();
            for (int task = 0; task < k.tasks(); task++) {
                k.doneIn(task, 1 + i);
                k.doneWith(task, i % 8, 60 - i);
            }
            k.idleIn(60);
            k.stuckIn(1 + i);
            checks.same("35 to 38 change nothing", k.digest(), before);
            checks.same("35 to 38 change nothing for later", k.digest(), same.digest());
            for (int back = 1; back <= 30; back++) {
                checks.same("35 to 38 change nothing that ran", k.ran(1, back), same.ran(1, back));
            }
            k.tick(1);
            same.tick(1);
        }
    }

    private void againAndAgain() {
        BeadleKernel k = mixed();
        int idle = k.idleIn(30);
        int done = k.doneIn(2, 60);
        k.doneWith(2, 7, 60);
        k.stuckIn(60);
        checks.same("37 the same again", k.idleIn(30), idle);
        checks.same("35 the same again", k.doneIn(2, 60), done);
    }

    private void fromTheMidst() {
        BeadleKernel k = Scene.kernel(3);
        k.setWay(1, 2, 4);
        Scene.started(k, 3, Scene.LOCK, 2, Scene.RUN, 6, Scene.SIGNAL, 1, Scene.RUN, 2);
        k.tick(1);
        Scene.started(k, 3, Scene.LOCK, 2, Scene.RUN, 3, Scene.AWAIT, 1, Scene.RUN, 1);
        Scene.started(k, 3, Scene.AWAIT, 1, Scene.RUN, 3);
        k.tick(1);
        Scene.started(k, 3, Scene.SLEEP, 4, Scene.RUN, 2);
        k.signal(0);
        Scene.started(k, 3, Scene.AWAIT, 0, Scene.RUN, 20);
        k.tick(1);
        checks.same("35 running, blocked, awaiting, asleep, running", Scene.states(k), "24532");
        doneAsTold(k);
    }

    private void doneAsTold(BeadleKernel k) {
        int[] told = new int[k.tasks()];
        for (int task = 0; task < told.length; task++) {
            told[task] = k.doneIn(task, 60);
        }
        int idle = k.idleIn(60);
        int clock = k.clock();
        int before = k.idle();
        k.tick(30);
        k.tick(30);
        for (int task = 0; task < told.length; task++) {
            int tick = k.told(task, 4);
            checks.same("35 of " + task, told[task], tick == -1 ? -1 : tick - clock + 1);
        }
        checks.same("37 as it came", k.idle() - before, idle);
    }

    /** Some of all that there is: quotas, locks, events, sleep, rounds and turns. */
    private static BeadleKernel mixed() {
        BeadleKernel k = new BeadleKernel();
        k.setProcessors(2);
        k.setWay(0, 2, 0);
        k.setQuota(1, 4);
        k.setPeriod(7);
        k.start(Scene.task(k, 3, 0, 3, Scene.LOCK, 0, Scene.RUN, 3, Scene.UNLOCK, 0, Scene.SLEEP, 3, Scene.RUN, 1));
        k.start(Scene.task(k, 1, 1, 2, Scene.LOCK, 0, Scene.RUN, 2, Scene.SIGNAL, 4, Scene.UNLOCK, 0, Scene.RUN, 2));
        k.start(Scene.task(k, 4, 1, 1, Scene.AWAIT, 4, Scene.RUN, 5, Scene.YIELD, 0, Scene.RUN, 4));
        k.start(Scene.task(k, 4, 2, 1, Scene.RUN, 6, Scene.AWAIT, 5, Scene.RUN, 4));
        k.start(Scene.task(k, 4, 3, 5, Scene.RUN, 3));
        k.tick(3);
        return k;
    }
}
