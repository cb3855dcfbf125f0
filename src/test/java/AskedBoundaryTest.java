/** Boundaries of the promises 13 to 34: what is asked of tasks, processors, groups, locks and events. */
public final class AskedBoundaryTest extends BoundaryTests {

    private static final int ALL = 7;

    public static void main(String[] args) {
        new AskedBoundaryTest().runAll();
    }

    /** A call with a task, whose answer does not matter. */
    private interface Asked {
        void of(BeadleKernel k, int task);
    }

    private void refusesNoSuchTask(Asked call) {
        for (int wrong : new int[] {-1, ALL, ALL + 1, 15, 16, LEAST, MOST}) {
            refused("task " + wrong, INDEX, k -> call.of(k, wrong));
        }
        refused("without tasks", BeadleKernel::new, INDEX, k -> call.of(k, 0));
        refused("of 16", () -> Scene.fresh(16), INDEX, k -> call.of(k, 16));
        for (int task = 0; task < 16; task++) {
            BeadleKernel k = Scene.fresh(16);
            long before = k.digest();
            call.of(k, task);
            same("nothing is changed by asking " + task, k.digest(), before);
        }
    }

    private void refusesBeside0To(int most, Asked call) {
        for (int wrong : beside(0, most)) {
            refused("number " + wrong, INDEX, k -> call.of(k, wrong));
        }
        for (int number = 0; number <= most; number++) {
            BeadleKernel k = Scene.busy(1);
            long before = k.digest();
            call.of(k, number);
            same("nothing is changed by asking " + number, k.digest(), before);
        }
    }

    // ---- 13 clock, 14 tasks

    @Says("Returns the CLOCK.")
    void promise13_clock() {
        BeadleKernel k = new BeadleKernel();
        same("at first", k.clock(), 0);
        k.tick(1);
        same("behind one tick", k.clock(), 1);
        k.tick(40);
        same("behind 41", k.clock(), 41);
        k.setProcessors(3);
        k.idleIn(60);
        same("only ticks count", k.clock(), 41);
    }

    @Says("Returns how many TASKS there are.")
    void promise14_tasksFrom0To16() {
        for (int tasks = 0; tasks <= 16; tasks++) {
            same("tasks", Scene.fresh(tasks).tasks(), tasks);
        }
        BeadleKernel k = Scene.busy(0);
        k.end(0);
        same("one that is done counts", k.tasks(), ALL);
    }

    // ---- 15 stateOf to 21 levelOf

    @Says("Throws `IndexOutOfBoundsException` if there is no such TASK")
    void promise15_refusesNoSuchTask() {
        refusesNoSuchTask(BeadleKernel::stateOf);
    }

    @Says("Returns its STATE, 0 to 6.")
    void promise15_states0To6() {
        for (int way = 0; way <= 2; way++) {
            same("states with the way " + way, Scene.states(Scene.busy(way)), "2453610");
        }
    }

    @Says("Throws `IndexOutOfBoundsException` if there is no such TASK")
    void promise16_refusesNoSuchTask() {
        refusesNoSuchTask(BeadleKernel::stepOf);
    }

    @Says("Returns the number of the STEP that is next")
    void promise16_stepThatIsNext() {
        BeadleKernel k = Scene.busy(0);
        same("new", k.stepOf(6), 0);
        same("new without steps", Scene.fresh(1).stepOf(0), 0);
        same("asleep, behind its SLEEP", k.stepOf(3), 1);
        k.signal(2);
        same("ready, behind its AWAIT", k.stepOf(2), 1);
        k.end(0);
        same("ready, behind its LOCK", k.stepOf(1), 1);
        BeadleKernel rounds = Scene.kernel(1);
        rounds.start(Scene.task(rounds, 0, 0, 2, Scene.SLEEP, 1, Scene.RUN, 1));
        rounds.tick(2);
        same("at 0 in the next round", rounds.stepOf(0), 0);
    }

    @Says("that at which it is, if it has run only a part of it, or is BLOCKED, or AWAITING there")
    void promise16_stepAtWhichItIs() {
        BeadleKernel k = Scene.busy(0);
        same("a part of its RUN", k.stepOf(0), 2);
        same("blocked there", k.stepOf(1), 0);
        same("awaiting there", k.stepOf(2), 0);
        same("ready, with a part of its RUN", k.stepOf(5), 0);
        BeadleKernel part = Scene.kernel(1);
        Scene.started(part, 0, Scene.RUN, 2, Scene.RUN, 1);
        part.tick(1);
        same("one of two ticks", part.stepOf(0), 0);
        part.tick(1);
        same("two of two ticks", part.stepOf(0), 1);
    }

    @Says("how many it has, if it is DONE")
    void promise16_howManyItHasIfDone() {
        BeadleKernel k = Scene.busy(0);
        int[] steps = {5, 2, 2, 2, 1, 1, 2};
        for (int task = 0; task < ALL; task++) {
            if (task != 4) {
                k.end(task);
            }
            same("steps of " + task, k.stepOf(task), steps[task]);
        }
        BeadleKernel none = Scene.fresh(1);
        none.end(0);
        same("none", none.stepOf(0), 0);
        BeadleKernel all = Scene.kernel(1);
        all.addTask(0, 0, 1);
        for (int step = 0; step < 16; step++) {
            all.addStep(0, Scene.RUN, 1);
        }
        all.start(0);
        all.tick(15);
        same("the last", all.stepOf(0), 15);
        all.tick(1);
        same("16", all.stepOf(0), 16);
    }

    @Says("Throws `IndexOutOfBoundsException` if there is no such TASK")
    void promise17_refusesNoSuchTask() {
        refusesNoSuchTask(BeadleKernel::roundsOf);
    }

    @Says("Returns how many ROUNDS it has gone through.")
    void promise17_roundsFrom0To5() {
        BeadleKernel k = Scene.kernel(1);
        k.start(Scene.task(k, 0, 0, 5, Scene.RUN, 1, Scene.RUN, 1));
        same("at first", k.roundsOf(0), 0);
        for (int round = 0; round < 5; round++) {
            k.tick(1);
            same("in the midst", k.roundsOf(0), round);
            k.tick(1);
            same("gone through", k.roundsOf(0), round + 1);
        }
        k.tick(5);
        same("no more than that", k.roundsOf(0), 5);
        BeadleKernel ended = Scene.kernel(1);
        ended.start(Scene.task(ended, 0, 0, 5, Scene.RUN, 2));
        ended.tick(3);
        ended.end(0);
        same("ended in its second", ended.roundsOf(0), 1);
    }

    @Says("Throws `IndexOutOfBoundsException` if there is no such TASK")
    void promise18_refusesNoSuchTask() {
        refusesNoSuchTask(BeadleKernel::keyOf);
    }

    @Says({"Returns its KEY.", "The KEY of a TASK is its RANK with 0"})
    void promise18_keysOfRanks0To7() {
        BeadleKernel k = Scene.fresh(8);
        for (int rank = 0; rank <= 7; rank++) {
            same("rank", k.keyOf(rank), rank);
        }
        k.end(7);
        same("of one that is done", k.keyOf(7), 7);
    }

    @Says("its LEVEL (0 to 3; 0, at first) with 1")
    void promise18_keysOfLevels0To3() {
        BeadleKernel k = new BeadleKernel();
        k.setWay(1, 1, 0);
        Scene.started(k, 7, Scene.RUN, 20);
        int[] keys = {0, 1, 1, 2, 2, 2, 2, 3, 3, 3, 3, 3, 3, 3, 3, 3};
        same("at first", k.keyOf(0), 0);
        for (int tick = 0; tick < keys.length; tick++) {
            k.tick(1);
            same("behind the tick " + tick, k.keyOf(0), keys[tick]);
        }
    }

    @Says("its TIME (see start()) with 2")
    void promise18_keysOfTimes() {
        BeadleKernel k = new BeadleKernel();
        k.setWay(2, 1, 0);
        k.start(Scene.task(k, 7, 0, 5, Scene.RUN, 20));
        same("at first", k.keyOf(0), 0);
        k.tick(40);
        k.tick(40);
        k.tick(20);
        same("100 ticks", k.keyOf(0), 84000);
    }

    @Says("Throws `IndexOutOfBoundsException` if there is no such TASK")
    void promise19_refusesNoSuchTask() {
        refusesNoSuchTask(BeadleKernel::lentKey);
    }

    @Says({"Returns its LENT KEY.", "Its LENT KEY is the least KEY of itself"})
    void promise19_itsOwnWithoutAny() {
        for (int way = 0; way <= 2; way++) {
            BeadleKernel k = Scene.busy(way);
            for (int task = 2; task < ALL; task++) {
                same("nobody is blocked by " + task, k.lentKey(task), k.keyOf(task));
            }
        }
        BeadleKernel k = Scene.busy(0);
        k.setRank(1, 4);
        same("those that are blocked have greater ones", k.lentKey(0), 3);
        k.setRank(1, 3);
        same("the same one", k.lentKey(0), 3);
        k.setRank(1, 2);
        same("a less one", k.lentKey(0), 2);
        k.end(1);
        same("nobody is blocked any more", k.lentKey(0), 3);
    }

    @Says("of all TASKS that are BLOCKED at a LOCK that it holds")
    void promise19_ofAllThatAreBlocked() {
        BeadleKernel k = Scene.kernel(3);
        Scene.started(k, 7, Scene.LOCK, 0, Scene.LOCK, 5, Scene.RUN, 20);
        k.tick(1);
        int[] ranks = {6, 3, 5};
        for (int i = 0; i < 3; i++) {
            Scene.started(k, ranks[i], Scene.LOCK, i == 1 ? 5 : 0, Scene.RUN, 1);
            k.tick(1);
        }
        same("the least of all locks", k.lentKey(0), 3);
        k.end(2);
        same("the least of one lock", k.lentKey(0), 5);
        k.end(3);
        same("the last", k.lentKey(0), 6);
        k.end(1);
        same("its own", k.lentKey(0), 7);
    }

    /** Seven tasks, each but the first blocked at a lock of the one ahead of it, by all six locks. */
    private static BeadleKernel chain() {
        BeadleKernel k = Scene.kernel(3);
        Scene.started(k, 7, Scene.LOCK, 0, Scene.RUN, 20);
        k.tick(1);
        for (int lock = 1; lock < 6; lock++) {
            Scene.started(k, 7 - lock, Scene.LOCK, lock, Scene.LOCK, lock - 1, Scene.RUN, 1);
            k.tick(1);
        }
        Scene.started(k, 0, Scene.LOCK, 5, Scene.RUN, 1);
        k.tick(1);
        return k;
    }

    @Says("of all that are BLOCKED at a LOCK that one of these holds, and so on")
    void promise19_onAndOnThroughAllLocks() {
        BeadleKernel k = chain();
        same("states", Scene.states(k), "2444444");
        for (int task = 0; task < ALL; task++) {
            same("lent to " + task, k.lentKey(task), 0);
        }
        k.end(6);
        for (int task = 0; task < 6; task++) {
            same("without the last, to " + task, k.lentKey(task), 2);
        }
        k.end(3);
        same("up to the one that is done", k.lentKey(0) * 10 + k.lentKey(1), 55);
        same("beyond it", k.lentKey(4) * 10 + k.lentKey(5), 22);
    }

    @Says("of all that are BLOCKED at a LOCK that one of these holds, and so on")
    void promise19_onAndOnInARing() {
        BeadleKernel k = ring();
        for (int task = 0; task < 6; task++) {
            same("lent to " + task, k.lentKey(task), 1);
            same("key of " + task, k.keyOf(task), task + 1);
        }
    }

    @Says("Throws `IndexOutOfBoundsException` if there is no such TASK")
    void promise20_refusesNoSuchTask() {
        refusesNoSuchTask(BeadleKernel::standOf);
    }

    @Says("Returns its STAND; -1 if it never had one.")
    void promise20_noneIfItNeverHadOne() {
        BeadleKernel k = Scene.fresh(16);
        for (int task = 0; task < 16; task++) {
            same("new", k.standOf(task), -1);
            k.end(task);
            same("done", k.standOf(task), -1);
        }
    }

    @Says("it gets a STAND: the next number, from 0 on")
    void promise20_theNextNumberFrom0On() {
        BeadleKernel k = Scene.kernel(1);
        Scene.started(k, 0, Scene.YIELD, 0, Scene.SLEEP, 1, Scene.AWAIT, 0, Scene.RUN, 1);
        same("by start", k.standOf(0), 0);
        k.tick(1);
        same("by YIELD", k.standOf(0), 1);
        k.tick(2);
        same("from sleep", k.standOf(0) * 10 + k.stateOf(0), 25);
        k.signal(0);
        same("from an event", k.standOf(0), 3);
        k.end(0);
        same("it keeps it", k.standOf(0), 3);
    }

    @Says("As it becomes READY, but not as it loses its processor in (d) (see 4) or by setProcessors()")
    void promise20_noneAsItLosesItsProcessor() {
        BeadleKernel k = Scene.kernel(1);
        Scene.started(k, 5, Scene.RUN, 9);
        k.tick(1);
        k.setProcessors(1);
        same("by setProcessors", k.standOf(0) * 10 + k.stateOf(0), 1);
        k.tick(1);
        Scene.started(k, 0, Scene.RUN, 1);
        k.tick(1);
        same("in (d)", k.standOf(0) * 10 + k.stateOf(0), 1);
        same("the next one", Scene.started(k, 0, Scene.RUN, 1) * 10 + k.standOf(2), 22);
    }

    @Says("Throws `IndexOutOfBoundsException` if there is no such TASK")
    void promise21_refusesNoSuchTask() {
        refusesNoSuchTask(BeadleKernel::levelOf);
    }

    @Says({"Returns its LEVEL.", "its LEVEL (0 to 3; 0, at first)"})
    void promise21_levels0To3() {
        BeadleKernel k = new BeadleKernel();
        k.setWay(1, 1, 0);
        Scene.started(k, 7, Scene.RUN, 20);
        same("at first", k.levelOf(0), 0);
        k.tick(19);
        same("at last", k.levelOf(0), 3);
        k.tick(1);
        same("done", k.stateOf(0) * 10 + k.levelOf(0), 63);
    }

    // ---- 22 told

    @Says("Throws `IndexOutOfBoundsException` if there is no such TASK")
    void promise22_refusesNoSuchTask() {
        for (int what = 0; what <= 4; what++) {
            int asked = what;
            refusesNoSuchTask((k, task) -> k.told(task, asked));
        }
    }

    @Says("Throws `IllegalArgumentException` if what is not 0 to 4")
    void promise22_refusesWhatBeside0To4() {
        for (int wrong : beside(0, 4)) {
            for (int task = 0; task < ALL; task++) {
                int asked = task;
                refused("what " + wrong + " of " + task, ARGUMENT, k -> k.told(asked, wrong));
            }
        }
    }

    @Says("If several exceptions apply, the one that is named first is thrown.")
    void promise22_namesTheIndexFirst() {
        for (int wrong : beside(0, 4)) {
            refused("what " + wrong, INDEX, k -> k.told(ALL, wrong));
            refused("what " + wrong, INDEX, k -> k.told(-1, wrong));
        }
    }

    private void tells(BeadleKernel k, int task, int... want) {
        for (int what = 0; what < want.length; what++) {
            same("told(" + task + ", " + what + ")", k.told(task, what), want[what]);
        }
    }

    @Says({"0 for how many ticks it has run, 1 has WAITED, 2 has been HELD UP; 3 the tick in which it ran first",
        "(-1 if that has not been yet; by end() the CLOCK)", "Returns that."})
    void promise22_tellsOfEachState() {
        BeadleKernel k = Scene.busy(0);
        tells(k, 0, 5, 0, 0, 0, -1);
        tells(k, 1, 0, 0, 4, -1, -1);
        tells(k, 2, 0, 0, 0, -1, -1);
        tells(k, 3, 0, 0, 0, -1, -1);
        tells(k, 4, 1, 0, 0, 2, 2);
        tells(k, 5, 1, 1, 0, 3, -1);
        tells(k, 6, 0, 0, 0, -1, -1);
    }

    @Says("4 that in which it was DONE (-1 if that has not been yet; by end() the CLOCK)")
    void promise22_tellsTheClockByEnd() {
        BeadleKernel k = Scene.busy(0);
        for (int task = 0; task < ALL; task++) {
            if (task != 4) {
                k.end(task);
            }
            same("done", k.told(task, 4), task == 4 ? 2 : 5);
        }
        BeadleKernel fresh = Scene.fresh(1);
        same("not yet", fresh.told(0, 4), -1);
        fresh.end(0);
        same("at the clock 0", fresh.told(0, 4), 0);
        same("it never ran", fresh.told(0, 3), -1);
    }

    @Says("3 the tick in which it ran first")
    void promise22_tellsTheTick0() {
        BeadleKernel k = Scene.kernel(1);
        Scene.started(k, 0, Scene.RUN, 1, Scene.RUN, 1);
        same("not yet", k.told(0, 3), -1);
        k.tick(2);
        same("first and last", k.told(0, 3) * 10 + k.told(0, 4), 1);
    }

    // ---- 23 processors, 24 on, 25 ran

    @Says("Returns how many processors there are.")
    void promise23_processors1To3() {
        BeadleKernel k = new BeadleKernel();
        for (int processors : new int[] {1, 3, 2, 1}) {
            k.setProcessors(processors);
            same("processors", k.processors(), processors);
        }
    }

    private static BeadleKernel of(int processors) {
        BeadleKernel k = new BeadleKernel();
        k.setProcessors(processors);
        return k;
    }

    @Says("Throws `IndexOutOfBoundsException` if there is no such processor")
    void promise24_refusesNoSuchProcessor() {
        refusesBeside0To(2, BeadleKernel::on);
        for (int processors = 1; processors <= 3; processors++) {
            int all = processors;
            refused("of " + all, () -> of(all), INDEX, k -> k.on(all));
            refused("-1 of " + all, () -> of(all), INDEX, k -> k.on(-1));
            same("the last", of(all).on(all - 1), -1);
        }
    }

    @Says("Returns the TASK that has it; -1 without one.")
    void promise24_oneThatHasIt() {
        BeadleKernel k = Scene.kernel(3);
        for (int task = 0; task < 16; task++) {
            Scene.started(k, 15 - task > 7 ? 7 : 15 - task, Scene.RUN, 9);
        }
        same("without one", k.on(0) + k.on(1) + k.on(2), -3);
        k.tick(1);
        same("the greatest number", k.on(0), 15);
        same("and the next ones", k.on(1) * 100 + k.on(2), 1413);
        BeadleKernel zero = Scene.kernel(1);
        Scene.started(zero, 0, Scene.RUN, 2);
        zero.tick(1);
        same("the number 0", zero.on(0), 0);
        zero.tick(1);
        same("none as it is done", zero.on(0), -1);
    }

    @Says("Throws `IndexOutOfBoundsException` if there is no such processor")
    void promise25_refusesNoSuchProcessor() {
        refusesBeside0To(2, (k, processor) -> k.ran(processor, 1));
        for (int processors = 1; processors <= 3; processors++) {
            int all = processors;
            refused("of " + all, () -> of(all), INDEX, k -> k.ran(all, 1));
            same("the last", of(all).ran(all - 1, 30), -2);
        }
    }

    @Says("Throws `IllegalArgumentException` if back is not 1 to 30")
    void promise25_refusesBackBeside1To30() {
        for (int wrong : beside(1, 30)) {
            refused("back " + wrong, ARGUMENT, k -> k.ran(0, wrong));
            refused("back " + wrong + " without ticks", BeadleKernel::new, ARGUMENT, k -> k.ran(0, wrong));
        }
    }

    @Says("If several exceptions apply, the one that is named first is thrown.")
    void promise25_namesTheIndexFirst() {
        for (int wrong : beside(1, 30)) {
            refused("back " + wrong, INDEX, k -> k.ran(3, wrong));
            refused("back " + wrong, INDEX, k -> k.ran(-1, wrong));
        }
    }

    @Says({"how many ticks back, 1 for the latest one", "Returns the TASK that ran there in that tick"})
    void promise25_from1To30Back() {
        BeadleKernel k = new BeadleKernel();
        k.setWay(0, 1, 0);
        for (int task = 0; task < 16; task++) {
            k.start(Scene.task(k, 0, 0, 5, Scene.RUN, 20));
        }
        for (int clock = 1; clock <= 70; clock++) {
            k.tick(1);
            for (int back = 1; back <= 30; back++) {
                int tick = clock - back;
                same("at the clock " + clock + ", " + back + " back", k.ran(0, back), tick < 0 ? -2 : tick % 16);
            }
        }
    }

    @Says("-1 if it was IDLE")
    void promise25_noneIfIdle() {
        BeadleKernel k = Scene.kernel(2);
        Scene.started(k, 0, Scene.RUN, 1, Scene.SLEEP, 2, Scene.RUN, 1);
        k.tick(5);
        same("the first", Scene.ran(k, 0, 5), "0--0-");
        same("the second", Scene.ran(k, 1, 5), "-----");
    }

    @Says("or was not there")
    void promise25_noneIfItWasNotThere() {
        BeadleKernel k = Scene.kernel(3);
        for (int task = 0; task < 3; task++) {
            Scene.started(k, 0, Scene.RUN, 9);
        }
        k.tick(1);
        k.setProcessors(1);
        k.tick(1);
        k.setProcessors(2);
        k.tick(1);
        k.setProcessors(3);
        k.tick(1);
        same("the first", Scene.ran(k, 0, 4), "0000");
        same("the second", Scene.ran(k, 1, 4), "1-11");
        same("the third", Scene.ran(k, 2, 4), "2--2");
    }

    @Says("-2 if there was no such tick")
    void promise25_noSuchTick() {
        BeadleKernel k = new BeadleKernel();
        same("no tick", k.ran(0, 1), -2);
        same("no tick", k.ran(0, 30), -2);
        k.tick(1);
        same("the only one", k.ran(0, 1), -1);
        same("none ahead of it", k.ran(0, 2), -2);
        k.tick(28);
        same("the first", k.ran(0, 29), -1);
        same("none ahead of it", k.ran(0, 30), -2);
        k.tick(1);
        same("the first of 30", k.ran(0, 30), -1);
    }

    // ---- 26 switches, 27 idle, 28 used

    @Says("Returns how many SWITCHES there were.")
    void promise26_switches() {
        BeadleKernel k = new BeadleKernel();
        same("at first", k.switches(), 0);
        k.tick(5);
        same("none without tasks", k.switches(), 0);
        k.setProcessors(3);
        for (int task = 0; task < 3; task++) {
            Scene.started(k, 0, Scene.RUN, 20);
        }
        same("none by start", k.switches(), 0);
        k.tick(1);
        same("three in one tick", k.switches(), 3);
        k.tick(2);
        same("none in these", k.switches(), 3);
        k.setProcessors(3);
        same("none by setProcessors", k.switches(), 3);
        k.tick(1);
        same("three in the next", k.switches(), 6);
    }

    @Says("Returns in how many ticks a processor was IDLE, all processors together.")
    void promise27_idle() {
        BeadleKernel k = of(3);
        same("at first", k.idle(), 0);
        k.tick(1);
        same("all", k.idle(), 3);
        for (int task = 0; task < 3; task++) {
            Scene.started(k, 0, Scene.RUN, 2);
        }
        k.tick(2);
        same("none", k.idle(), 3);
        k.setProcessors(2);
        k.tick(2);
        same("two more in each of two ticks", k.idle(), 7);
    }

    @Says("Throws `IndexOutOfBoundsException` if there is no such GROUP")
    void promise28_refusesGroupsBeside0To3() {
        refusesBeside0To(3, BeadleKernel::used);
    }

    @Says("Returns what is counted for it.")
    void promise28_used() {
        BeadleKernel k = Scene.kernel(3);
        for (int group = 0; group < 4; group++) {
            same("at first", k.used(group), 0);
        }
        k.setPeriod(50);
        for (int task = 0; task < 3; task++) {
            k.start(Scene.task(k, 0, 3, 4, Scene.RUN, 20));
        }
        k.tick(40);
        k.tick(10);
        same("all that a period has", k.used(3), 150);
        same("none of the others", k.used(0) + k.used(1) + k.used(2), 0);
        k.tick(1);
        same("the next one", k.used(3), 3);
    }

    // ---- 29 holder to 32 awaiting

    @Says("Throws `IndexOutOfBoundsException` if there is no such LOCK")
    void promise29_refusesLocksBeside0To5() {
        refusesBeside0To(5, BeadleKernel::holder);
    }

    @Says("Returns the TASK that holds it; -1 without one.")
    void promise29_holder() {
        BeadleKernel k = Scene.kernel(1);
        Scene.started(k, 0, Scene.LOCK, 0, Scene.LOCK, 5, Scene.RUN, 2);
        same("none yet", k.holder(0) + k.holder(5), -2);
        k.tick(1);
        same("both", k.holder(0) + k.holder(5), 0);
        k.tick(1);
        same("free again as it is done", k.holder(0) + k.holder(5), -2);
        BeadleKernel held = Scene.busy(0);
        same("the number 0", held.holder(0) + held.holder(1), 0);
        same("none", held.holder(2) + held.holder(3) + held.holder(4) + held.holder(5), -4);
        BeadleKernel last = Scene.fresh(15);
        Scene.started(last, 0, Scene.LOCK, 5, Scene.RUN, 2);
        last.tick(1);
        same("the number 15", last.holder(5), 15);
    }

    @Says("Throws `IndexOutOfBoundsException` if there is no such LOCK")
    void promise30_refusesLocksBeside0To5() {
        refusesBeside0To(5, BeadleKernel::blocked);
    }

    @Says({"Returns the set of TASKS that are BLOCKED at it.", "Sets are told as numbers: the sum of 2^k for each k in it."})
    void promise30_blockedFromNoneToAllOthers() {
        BeadleKernel k = Scene.kernel(3);
        Scene.started(k, 0, Scene.LOCK, 5, Scene.RUN, 20);
        k.tick(1);
        same("none", k.blocked(5), 0);
        for (int task = 1; task < 16; task++) {
            Scene.started(k, 7, Scene.LOCK, 5, Scene.RUN, 1);
            k.tick(1);
            same("all others", k.blocked(5), (1 << task + 1) - 2);
        }
        same("15 of them", k.blocked(5), 65534);
        same("none at another", k.blocked(4), 0);
        k.end(7);
        same("without the 7", k.blocked(5), 65534 - 128);
    }

    @Says("Throws `IndexOutOfBoundsException` if there is no such EVENT")
    void promise31_refusesEventsBeside0To5() {
        refusesBeside0To(5, BeadleKernel::number);
    }

    @Says("Returns its number.")
    void promise31_numbersFrom0To99() {
        BeadleKernel k = new BeadleKernel();
        for (int i = 0; i < 120; i++) {
            same("number", k.number(5), Math.min(i, 99));
            same("of another", k.number(0), 0);
            k.signal(5);
        }
    }

    @Says("Throws `IndexOutOfBoundsException` if there is no such EVENT")
    void promise32_refusesEventsBeside0To5() {
        refusesBeside0To(5, BeadleKernel::awaiting);
    }

    @Says({"Returns the set of TASKS that are AWAITING it.", "Sets are told as numbers: the sum of 2^k for each k in it."})
    void promise32_awaitingFromNoneToAll() {
        BeadleKernel k = Scene.kernel(1);
        for (int task = 0; task < 16; task++) {
            same("so far", k.awaiting(0), (1 << task) - 1);
            Scene.started(k, 0, Scene.AWAIT, 0, Scene.RUN, 1);
            k.tick(1);
        }
        same("all 16", k.awaiting(0), 65535);
        same("none at another", k.awaiting(5), 0);
        for (int task = 0; task < 16; task++) {
            k.signal(0);
            same("one less", k.awaiting(0), 65535 - (1 << task + 1) + 1);
        }
    }

    // ---- 33 stuck, 34 load

    /** Six tasks of the ranks 1 to 6, each blocked at a lock of the next one, by all six locks. */
    private static BeadleKernel ring() {
        BeadleKernel k = Scene.kernel(3);
        for (int task = 0; task < 6; task++) {
            Scene.started(k, task + 1, Scene.LOCK, task, Scene.AWAIT, 0, Scene.LOCK, (task + 1) % 6, Scene.RUN, 1);
        }
        k.tick(2);
        for (int task = 0; task < 6; task++) {
            k.signal(0);
        }
        k.tick(2);
        return k;
    }

    @Says("to none that is not BLOCKED")
    void promise33_noneIsStuck() {
        same("without tasks", new BeadleKernel().stuck(), 0);
        same("one is blocked at one that is running", Scene.busy(0).stuck(), 0);
        same("a chain through all locks", chain().stuck(), 0);
        int[][] steps = {{Scene.SLEEP, 40}, {Scene.AWAIT, 0}};
        for (int[] step : steps) {
            BeadleKernel k = Scene.kernel(1);
            Scene.started(k, 0, Scene.LOCK, 0, step[0], step[1], Scene.RUN, 1);
            k.tick(1);
            Scene.started(k, 0, Scene.LOCK, 0, Scene.RUN, 1);
            k.tick(1);
            same("blocked at one that waits", k.stuck() * 10 + k.blocked(0), 2);
        }
    }

    @Says("Returns the set of TASKS that are STUCK: those that are BLOCKED")
    void promise33_aRingOfTwo() {
        BeadleKernel k = Scene.kernel(2);
        Scene.started(k, 0, Scene.LOCK, 0, Scene.RUN, 1, Scene.LOCK, 1, Scene.RUN, 1);
        Scene.started(k, 0, Scene.LOCK, 1, Scene.RUN, 2, Scene.LOCK, 0, Scene.RUN, 1);
        k.tick(2);
        same("one is blocked", k.stuck() * 10 + k.blocked(1), 1);
        k.tick(1);
        same("both are", k.stuck(), 3);
        k.setProcessors(1);
        k.tick(40);
        same("for ever", k.stuck(), 3);
        k.end(0);
        same("but for end()", k.stuck(), 0);
    }

    @Says("again and again from one to the TASK that holds the LOCK at which it is BLOCKED")
    void promise33_aRingOfAllLocks() {
        BeadleKernel k = ring();
        same("all six", k.stuck(), 63);
        k.end(5);
        same("none", k.stuck(), 0);
    }

    @Says("again and again from one to the TASK that holds the LOCK at which it is BLOCKED")
    void promise33_allThatComeToARing() {
        BeadleKernel k = ring();
        for (int task = 6; task < 16; task++) {
            Scene.started(k, 7, Scene.LOCK, task % 6, Scene.RUN, 1);
            same("not yet", k.stuck(), (1 << task) - 1);
            k.tick(1);
        }
        same("all 16", k.stuck(), 65535);
    }

    @Says("0 ahead of the first tick")
    void promise34_loadAheadOfTheFirstTick() {
        BeadleKernel k = new BeadleKernel();
        checks.same("0", k.load(), 0.0);
        k.setProcessors(3);
        Scene.started(k, 0, Scene.RUN, 1);
        checks.same("still", k.load(), 0.0);
    }

    @Says("Returns the mean of the ticks that processors were not IDLE, in all ticks, of all processors that there were then")
    void promise34_loadFrom0To1() {
        BeadleKernel k = of(3);
        k.tick(40);
        checks.same("all idle", k.load(), 0.0);
        BeadleKernel one = Scene.kernel(1);
        Scene.started(one, 0, Scene.RUN, 1);
        one.tick(1);
        checks.same("1 of 1", one.load(), 1.0);
        BeadleKernel full = Scene.kernel(3);
        for (int task = 0; task < 3; task++) {
            Scene.started(full, 0, Scene.RUN, 20);
        }
        full.tick(1);
        checks.same("none idle in the first tick", full.load(), 1.0);
        full.tick(19);
        checks.same("none idle", full.load(), 1.0);
        full.tick(1);
        checks.same("60 of 63", full.load(), 60.0 / 63.0);
    }

    @Says("how many were not, divided once by how many there were, not cut")
    void promise34_loadIsDividedOnce() {
        BeadleKernel k = of(1);
        Scene.started(k, 0, Scene.RUN, 1);
        k.tick(3);
        checks.same("1 of 3", k.load(), 1.0 / 3.0);
        k.setProcessors(3);
        k.tick(1);
        checks.same("1 of 6", k.load(), 1.0 / 6.0);
        k.setProcessors(2);
        k.tick(2);
        checks.same("1 of 10, of those that there were then", k.load(), 0.1);
        Scene.started(k, 0, Scene.RUN, 20);
        k.tick(20);
        checks.same("21 of 50", k.load(), 21.0 / 50.0);
        k.setProcessors(1);
        k.tick(3);
        checks.same("21 of 53", k.load(), 21.0 / 53.0);
    }
}
