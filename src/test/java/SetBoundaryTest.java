/** Boundaries of the promises 1 to 5: a new object, and what is set. */
public final class SetBoundaryTest extends BoundaryTests {

    public static void main(String[] args) {
        new SetBoundaryTest().runAll();
    }

    // ---- 1 a new object

    @Says("Creates a scheduler with one processor, without TASKS.")
    void promise01_oneProcessor() {
        BeadleKernel k = new BeadleKernel();
        same("processors", k.processors(), 1);
        same("on", k.on(0), -1);
        same("before", k.setProcessors(1), 1);
        refused("on(1)", BeadleKernel::new, INDEX, x -> x.on(1));
    }

    @Says("Creates a scheduler with one processor, without TASKS.")
    void promise01_withoutTasks() {
        BeadleKernel k = new BeadleKernel();
        same("tasks", k.tasks(), 0);
        same("stuck", k.stuck(), 0);
        refused("stateOf(0)", BeadleKernel::new, INDEX, x -> x.stateOf(0));
        same("the first task", k.addTask(0, 0, 1), 0);
    }

    @Says("The CLOCK is 0 at first.")
    void promise01_clockIs0() {
        BeadleKernel k = Scene.kernel(1);
        same("clock", k.clock(), 0);
        Scene.started(k, 0, Scene.RUN, 1);
        same("behind a tick", k.tick(1), 1);
        same("the first tick has the number 0", k.told(0, 3), 0);
    }

    @Says("The WAY is 0 (at first), 1 or 2.")
    void promise01_wayIs0() {
        BeadleKernel k = new BeadleKernel();
        k.addTask(5, 0, 1);
        same("the key is the rank", k.keyOf(0), 5);
        same("way", k.setWay(1, 1, 0), 0);
    }

    @Says("QUANTUM is 1 to 10 (3, at first)")
    void promise01_quantumIs3() {
        BeadleKernel k = new BeadleKernel();
        Scene.started(k, 3, Scene.RUN, 20);
        Scene.started(k, 3, Scene.RUN, 20);
        k.tick(10);
        same("turns", Scene.ran(k, 0, 10), "0001110001");
    }

    @Says("BOOST 0 to 50 (0, at first)")
    void promise01_boostIs0() {
        // No more than this can be seen of it: setWay() sets it together with the way that makes use of it.
        BeadleKernel k = new BeadleKernel();
        Scene.started(k, 3, Scene.RUN, 20);
        k.tick(15);
        same("level", k.levelOf(0), 0);
        same("done", k.doneIn(0, 60), 5);
    }

    @Says("Each has a QUOTA: 0 (at first) for none")
    void promise01_noQuotas() {
        for (int group = 0; group < 4; group++) {
            BeadleKernel k = Scene.kernel(1);
            k.start(Scene.task(k, 0, group, 1, Scene.RUN, 20));
            k.tick(10);
            same("run of the group " + group, k.used(group), 10);
            same("its quota", k.setQuota(group, 1), 0);
        }
    }

    @Says("ticks in each PERIOD (1 to 50 ticks; 10, at first)")
    void promise01_periodIs10() {
        BeadleKernel k = Scene.kernel(1);
        Scene.started(k, 0, Scene.RUN, 20);
        k.tick(10);
        same("behind the tick 9", k.used(0), 10);
        k.tick(1);
        same("behind the tick 10", k.used(0), 1);
        same("period", k.setPeriod(1), 10);
    }

    @Says("Each LOCK is held by one TASK, or by none (at first).")
    void promise01_locksAreFree() {
        BeadleKernel k = new BeadleKernel();
        for (int lock = 0; lock < 6; lock++) {
            same("holder of " + lock, k.holder(lock), -1);
            same("blocked at " + lock, k.blocked(lock), 0);
        }
    }

    @Says("Each EVENT has a number that can be taken (0, at first).")
    void promise01_eventsAreAt0() {
        for (int event = 0; event < 6; event++) {
            BeadleKernel k = Scene.kernel(1);
            same("number of " + event, k.number(event), 0);
            same("awaiting " + event, k.awaiting(event), 0);
            Scene.started(k, 0, Scene.AWAIT, event, Scene.RUN, 1);
            k.tick(1);
            same("nothing can be taken of " + event, k.stateOf(0), Scene.AWAITING);
        }
    }

    @Says("An object is used for at most 512 calls after it has been made")
    void promise01_lastsFor512Calls() {
        same("the clock as the call 512", behind511Calls().clock(), 429 * 40);
        same("a tick as the call 512", behind511Calls().tick(40), 430 * 40);
        // Each of 16 tasks runs for two times 20 ticks; all other ticks of three processors are idle.
        same("idle as the call 512", behind511Calls().idle(), 3 * 429 * 40 - 16 * 40);
        same("a state as the call 512", behind511Calls().stateOf(15), Scene.DONE);
    }

    private static BeadleKernel behind511Calls() {
        BeadleKernel k = new BeadleKernel();
        k.setProcessors(3);
        k.setWay(2, 1, 0);
        // Five calls each: addTask, addStep three times, start.
        for (int task = 0; task < 16; task++) {
            Scene.started(k, 7, Scene.RUN, 20, Scene.SLEEP, 40, Scene.RUN, 20);
        }
        for (int calls = 82; calls < 511; calls++) {
            k.tick(40);
        }
        return k;
    }

    // ---- 2 setProcessors

    @Says("Throws `IllegalArgumentException` if processors is not 1 to 3")
    void promise02_refusesBeside1To3() {
        for (int wrong : beside(1, 3)) {
            refused("setProcessors(" + wrong + ")", ARGUMENT, k -> k.setProcessors(wrong));
            refused("without tasks: " + wrong, BeadleKernel::new, ARGUMENT, k -> k.setProcessors(wrong));
        }
    }

    @Says("Throws `IllegalArgumentException` if processors is not 1 to 3")
    void promise02_takes1To3() {
        for (int processors = 1; processors <= 3; processors++) {
            int set = processors;
            BeadleKernel k = new BeadleKernel();
            same("before", k.setProcessors(set), 1);
            same("then", k.processors(), set);
            same("the last one", k.on(set - 1), -1);
            refused("one more", () -> withProcessors(set), INDEX, x -> x.on(set));
            k.tick(1);
            same("all are idle", k.idle(), set);
        }
    }

    private static BeadleKernel withProcessors(int processors) {
        BeadleKernel k = new BeadleKernel();
        k.setProcessors(processors);
        return k;
    }

    @Says("All TASKS that are RUNNING become READY, with the STANDS that they have.")
    void promise02_allRunningBecomeReady() {
        for (int processors = 1; processors <= 3; processors++) {
            BeadleKernel k = Scene.kernel(3);
            for (int task = 0; task < 3; task++) {
                Scene.started(k, 2 - task, Scene.RUN, 20);
            }
            k.tick(1);
            same("all are running", Scene.states(k), "222");
            k.setProcessors(processors);
            same("all are ready", Scene.states(k), "111");
            for (int task = 0; task < 3; task++) {
                same("stand of " + task, k.standOf(task), task);
            }
            for (int processor = 0; processor < processors; processor++) {
                same("on " + processor, k.on(processor), -1);
            }
            same("the next stand", Scene.started(k, 7, Scene.RUN, 1) * 10 + k.standOf(3), 33);
        }
    }

    @Says("All TASKS that are RUNNING become READY, with the STANDS that they have.")
    void promise02_noOthersBecomeReady() {
        for (int way = 0; way <= 2; way++) {
            BeadleKernel k = Scene.busy(way);
            same("before", Scene.states(k), "2453610");
            k.setProcessors(3);
            same("only the one that is running", Scene.states(k), "1453610");
            k.setProcessors(1);
            same("none is running", Scene.states(k), "1453610");
        }
    }

    @Says("Returns how many there were.")
    void promise02_returnsHowManyThereWere() {
        BeadleKernel k = new BeadleKernel();
        same("at first", k.setProcessors(3), 1);
        same("the same again", k.setProcessors(3), 3);
        same("less", k.setProcessors(2), 3);
        same("least", k.setProcessors(1), 2);
        same("more", k.setProcessors(2), 1);
    }

    // ---- 3 setWay

    @Says("Throws `IllegalArgumentException` if way is not 0 to 2")
    void promise03_refusesWaysBeside0To2() {
        for (int wrong : beside(0, 2)) {
            refused("way " + wrong, ARGUMENT, k -> k.setWay(wrong, 5, 9));
        }
    }

    @Says("quantum is not 1 to 10")
    void promise03_refusesQuantaBeside1To10() {
        for (int wrong : beside(1, 10)) {
            refused("quantum " + wrong, ARGUMENT, k -> k.setWay(1, wrong, 9));
            refused("quantum " + wrong + " with the way 2", ARGUMENT, k -> k.setWay(2, wrong, 0));
        }
    }

    @Says("or boost is not 0 to 50")
    void promise03_refusesBoostsBeside0To50() {
        for (int wrong : beside(0, 50)) {
            refused("boost " + wrong, ARGUMENT, k -> k.setWay(1, 5, wrong));
            refused("boost " + wrong + " with the way 0", ARGUMENT, k -> k.setWay(0, 5, wrong));
        }
    }

    @Says("The KEY of a TASK is its RANK with 0, its LEVEL (0 to 3; 0, at first) with 1, its TIME (see start()) with 2.")
    void promise03_takesWays0To2() {
        BeadleKernel k = new BeadleKernel();
        k.setWay(1, 1, 0);
        Scene.started(k, 6, Scene.RUN, 20);
        k.tick(2);
        k.setWay(2, 1, 0);
        k.tick(1);
        same("way 2", k.keyOf(0), 420);
        same("before", k.setWay(1, 1, 0), 2);
        same("way 1", k.keyOf(0), 1);
        same("before", k.setWay(0, 1, 0), 1);
        same("way 0", k.keyOf(0), 6);
        same("before", k.setWay(0, 1, 0), 0);
    }

    @Says({"QUANTUM is 1 to 10", "QUANTUM from now on"})
    void promise03_takesQuanta1And10() {
        BeadleKernel one = new BeadleKernel();
        one.setWay(0, 1, 0);
        Scene.started(one, 3, Scene.RUN, 20);
        Scene.started(one, 3, Scene.RUN, 20);
        one.tick(5);
        same("quantum 1", Scene.ran(one, 0, 5), "01010");
        BeadleKernel ten = new BeadleKernel();
        ten.setWay(0, 10, 0);
        Scene.started(ten, 3, Scene.RUN, 20);
        Scene.started(ten, 3, Scene.RUN, 20);
        ten.tick(21);
        same("quantum 10", Scene.ran(ten, 0, 21), "000000000011111111110");
    }

    /** A task that waits for an event with the level 3, as 20 ticks have gone by. */
    private static BeadleKernel atLevel3(int boost) {
        BeadleKernel k = new BeadleKernel();
        k.setWay(1, 1, 0);
        Scene.started(k, 0, Scene.RUN, 19, Scene.AWAIT, 0, Scene.RUN, 1);
        k.tick(20);
        k.setWay(1, 1, boost);
        return k;
    }

    @Says({"BOOST 0 to 50", "BOOST from now on"})
    void promise03_takesBoost50() {
        BeadleKernel k = atLevel3(50);
        k.tick(30);
        same("behind the tick 49", k.clock() * 10 + k.levelOf(0), 503);
        k.tick(1);
        same("behind the tick 50", k.levelOf(0), 0);
    }

    @Says("BOOST 0 to 50")
    void promise03_takesBoost1() {
        BeadleKernel k = atLevel3(1);
        same("at first", k.levelOf(0), 3);
        k.tick(1);
        same("behind the next tick", k.levelOf(0), 0);
        BeadleKernel each = new BeadleKernel();
        each.setWay(1, 1, 1);
        Scene.started(each, 0, Scene.RUN, 20);
        each.tick(19);
        same("each tick begins with 0, and ends a turn", each.levelOf(0) * 100 + each.standOf(0), 118);
    }

    @Says("BOOST 0 to 50")
    void promise03_takesBoost0() {
        BeadleKernel k = atLevel3(0);
        k.tick(40);
        k.tick(40);
        same("behind the tick 99", k.clock() * 10 + k.levelOf(0), 1003);
        k.tick(1);
        same("behind the tick 100", k.levelOf(0), 3);
    }

    @Says("the WAY from now on (LEVELS, TIMES and ticks on processors stay as they are)")
    void promise03_levelsAndTimesStay() {
        BeadleKernel k = new BeadleKernel();
        k.setWay(1, 1, 0);
        Scene.started(k, 7, Scene.RUN, 20);
        k.tick(8);
        same("the greatest level", k.levelOf(0), 3);
        k.setWay(2, 1, 0);
        k.tick(2);
        same("level", k.levelOf(0), 3);
        same("time", k.keyOf(0), 1680);
        k.setWay(0, 1, 0);
        same("level", k.levelOf(0), 3);
        k.setWay(2, 1, 0);
        same("time", k.keyOf(0), 1680);
    }

    @Says("the WAY from now on (LEVELS, TIMES and ticks on processors stay as they are)")
    void promise03_ticksOnProcessorsStay() {
        BeadleKernel k = Scene.kernel(1);
        Scene.started(k, 1, Scene.RUN, 20);
        Scene.started(k, 1, Scene.RUN, 20);
        k.tick(2);
        k.setWay(2, 1, 0);
        k.tick(1);
        k.setWay(0, 4, 0);
        k.tick(3);
        // Two ticks with the way 0 and one with the way 2 leave one of four.
        same("who ran", Scene.ran(k, 0, 6), "000011");
    }

    @Says("Returns the WAY before.")
    void promise03_returnsTheWayBefore() {
        BeadleKernel k = new BeadleKernel();
        same("at first", k.setWay(2, 10, 50), 0);
        same("then", k.setWay(1, 1, 0), 2);
        same("then", k.setWay(1, 2, 3), 1);
        same("then", k.setWay(0, 1, 0), 1);
        same("then", k.setWay(0, 1, 0), 0);
    }

    // ---- 4 setQuota

    @Says("Throws `IndexOutOfBoundsException` if there is no such GROUP")
    void promise04_refusesGroupsBeside0To3() {
        for (int wrong : beside(0, 3)) {
            refused("group " + wrong, INDEX, k -> k.setQuota(wrong, 1));
        }
    }

    @Says("Throws `IllegalArgumentException` if quota is not 0 to 50")
    void promise04_refusesQuotasBeside0To50() {
        for (int wrong : beside(0, 50)) {
            refused("quota " + wrong, ARGUMENT, k -> k.setQuota(0, wrong));
            refused("quota " + wrong + " of the last", ARGUMENT, k -> k.setQuota(3, wrong));
        }
    }

    @Says("If several exceptions apply, the one that is named first is thrown.")
    void promise04_namesTheIndexFirst() {
        for (int group : beside(0, 3)) {
            for (int quota : beside(0, 50)) {
                refused("group " + group + ", quota " + quota, INDEX, k -> k.setQuota(group, quota));
            }
        }
    }

    @Says("or 1 to 50 ticks in each PERIOD")
    void promise04_takesQuota1() {
        BeadleKernel k = Scene.kernel(1);
        k.setQuota(0, 1);
        Scene.started(k, 0, Scene.RUN, 20);
        k.tick(12);
        same("one tick in each period", Scene.ran(k, 0, 12), "0---------0-");
    }

    @Says("or 1 to 50 ticks in each PERIOD")
    void promise04_takesQuota50() {
        BeadleKernel k = Scene.kernel(2);
        k.setPeriod(50);
        k.setQuota(3, 50);
        k.start(Scene.task(k, 0, 3, 2, Scene.RUN, 20));
        k.start(Scene.task(k, 0, 3, 2, Scene.RUN, 20));
        k.tick(25);
        same("not used up", k.idle(), 0);
        same("used", k.used(3), 50);
        k.tick(25);
        same("used up", k.idle(), 50);
        k.tick(1);
        same("the next period", k.used(3), 2);
    }

    @Says("0 (at first) for none")
    void promise04_takesQuota0() {
        BeadleKernel k = Scene.kernel(1);
        k.setQuota(0, 1);
        Scene.started(k, 0, Scene.RUN, 20);
        k.tick(3);
        same("before", k.setQuota(0, 0), 1);
        k.tick(3);
        same("none from now on", Scene.ran(k, 0, 6), "0--000");
    }

    @Says("Returns the one before.")
    void promise04_returnsTheOneBefore() {
        BeadleKernel k = new BeadleKernel();
        for (int group = 0; group < 4; group++) {
            same("at first", k.setQuota(group, 50 - group), 0);
        }
        for (int group = 0; group < 4; group++) {
            same("each its own", k.setQuota(group, 0), 50 - group);
            same("then", k.setQuota(group, 0), 0);
        }
    }

    // ---- 5 setPeriod

    @Says("Throws `IllegalArgumentException` if period is not 1 to 50")
    void promise05_refusesBeside1To50() {
        for (int wrong : beside(1, 50)) {
            refused("period " + wrong, ARGUMENT, k -> k.setPeriod(wrong));
        }
    }

    @Says("PERIOD (1 to 50 ticks")
    void promise05_takes1() {
        BeadleKernel k = Scene.kernel(1);
        k.setPeriod(1);
        k.setQuota(0, 1);
        Scene.started(k, 0, Scene.RUN, 20);
        for (int i = 0; i < 5; i++) {
            k.tick(1);
            same("each tick begins one", k.used(0), 1);
        }
        same("never used up", Scene.ran(k, 0, 5), "00000");
    }

    @Says("PERIOD (1 to 50 ticks")
    void promise05_takes50() {
        BeadleKernel k = Scene.kernel(1);
        k.setPeriod(50);
        k.start(Scene.task(k, 0, 0, 5, Scene.RUN, 20));
        k.tick(40);
        k.tick(9);
        same("behind the tick 48", k.used(0), 49);
        k.tick(1);
        same("behind the tick 49", k.used(0), 50);
        k.tick(1);
        same("behind the tick 50", k.used(0), 1);
        k.tick(40);
        k.tick(9);
        same("behind the tick 99", k.used(0), 50);
        k.tick(1);
        same("none is left", k.used(0), 0);
    }

    @Says("A PERIOD begins with each tick that is a multiple of it; what the TASKS of the GROUP have run is counted from then on.")
    void promise05_beginsWithMultiples() {
        BeadleKernel k = Scene.kernel(1);
        k.start(Scene.task(k, 0, 0, 5, Scene.RUN, 20));
        k.tick(5);
        k.setPeriod(7);
        same("nothing is counted anew at once", k.used(0), 5);
        k.tick(2);
        same("behind the tick 6", k.used(0), 7);
        k.tick(1);
        same("behind the tick 7", k.used(0), 1);
        k.setPeriod(4);
        k.tick(1);
        same("the tick 8, which is next, is a multiple", k.used(0), 1);
        k.setPeriod(8);
        k.tick(7);
        same("behind the tick 15", k.used(0), 8);
        k.tick(1);
        same("behind the tick 16", k.used(0), 1);
    }

    @Says("Returns the one before.")
    void promise05_returnsTheOneBefore() {
        BeadleKernel k = new BeadleKernel();
        same("at first", k.setPeriod(50), 10);
        same("then", k.setPeriod(1), 50);
        same("then", k.setPeriod(1), 1);
        same("then", k.setPeriod(2), 1);
    }
}
