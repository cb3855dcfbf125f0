/** Boundaries of the promises 6 to 11: tasks, and what is done to them from outside. */
public final class TaskBoundaryTest extends BoundaryTests {

    /** The tasks of the busy scene that are not new. */
    private static final int NOT_NEW = 6;
    private static final int NEW_ONE = 6;
    private static final int ALL = 7;

    public static void main(String[] args) {
        new TaskBoundaryTest().runAll();
    }

    private static int[] besideTheTasks() {
        return new int[] {-1, ALL, ALL + 1, 15, 16, LEAST, MOST};
    }

    // ---- 6 addTask

    @Says("Throws `IllegalArgumentException` if rank is not 0 to 7")
    void promise06_refusesRanksBeside0To7() {
        for (int wrong : beside(0, 7)) {
            refused("rank " + wrong, ARGUMENT, k -> k.addTask(wrong, 0, 1));
        }
    }

    @Says("group is not 0 to 3")
    void promise06_refusesGroupsBeside0To3() {
        for (int wrong : beside(0, 3)) {
            refused("group " + wrong, ARGUMENT, k -> k.addTask(0, wrong, 1));
        }
    }

    @Says("or rounds is not 1 to 5")
    void promise06_refusesRoundsBeside1To5() {
        for (int wrong : beside(1, 5)) {
            refused("rounds " + wrong, ARGUMENT, k -> k.addTask(0, 0, wrong));
        }
    }

    @Says({"Throws `IllegalStateException` if there are 16", "At most 16, numbered from 0."})
    void promise06_refusesTheSeventeenth() {
        refused("one more", () -> Scene.fresh(16), STATE, k -> k.addTask(0, 0, 1));
        BeadleKernel k = Scene.fresh(16);
        for (int task = 0; task < 16; task++) {
            k.end(task);
        }
        same("none is left over by one that is done", Scene.answer(() -> k.addTask(0, 0, 1)), "IllegalStateException");
        same("tasks", k.tasks(), 16);
    }

    @Says("At most 16, numbered from 0.")
    void promise06_takesSixteen() {
        BeadleKernel k = Scene.fresh(15);
        same("the last number", k.addTask(7, 3, 5), 15);
        same("tasks", k.tasks(), 16);
        same("its state", k.stateOf(15), Scene.NEW);
        k.addStep(15, Scene.RUN, 1);
        same("it can be started", k.start(15), 0);
    }

    @Says("If several exceptions apply, the one that is named first is thrown.")
    void promise06_namesTheArgumentFirst() {
        refused("rank", () -> Scene.fresh(16), ARGUMENT, k -> k.addTask(8, 0, 1));
        refused("group", () -> Scene.fresh(16), ARGUMENT, k -> k.addTask(0, 4, 1));
        refused("rounds", () -> Scene.fresh(16), ARGUMENT, k -> k.addTask(0, 0, 6));
        refused("rounds", () -> Scene.fresh(16), ARGUMENT, k -> k.addTask(0, 0, 0));
    }

    @Says("Each has a RANK, 0 to 7, a GROUP, 0 to 3, a number of ROUNDS, 1 to 5")
    void promise06_takesRanks0And7() {
        BeadleKernel k = Scene.kernel(1);
        k.start(Scene.task(k, 7, 0, 1, Scene.RUN, 1));
        k.start(Scene.task(k, 0, 0, 1, Scene.RUN, 1));
        same("keys", k.keyOf(0) * 10 + k.keyOf(1), 70);
        k.tick(2);
        same("0 goes ahead of 7", Scene.ran(k, 0, 2), "10");
    }

    @Says("Each has a RANK, 0 to 7, a GROUP, 0 to 3, a number of ROUNDS, 1 to 5")
    void promise06_takesGroups0And3() {
        BeadleKernel k = Scene.kernel(2);
        k.start(Scene.task(k, 0, 0, 1, Scene.RUN, 2));
        k.start(Scene.task(k, 0, 3, 1, Scene.RUN, 1));
        k.tick(2);
        same("used", k.used(0) * 1000 + k.used(1) * 100 + k.used(2) * 10 + k.used(3), 2001);
    }

    @Says("Each has a RANK, 0 to 7, a GROUP, 0 to 3, a number of ROUNDS, 1 to 5")
    void promise06_takesRounds1And5() {
        BeadleKernel k = Scene.kernel(2);
        k.start(Scene.task(k, 0, 0, 1, Scene.RUN, 2));
        k.start(Scene.task(k, 0, 0, 5, Scene.RUN, 2));
        k.tick(20);
        same("the tick of the last of 1", k.told(0, 4), 1);
        same("the tick of the last of 5", k.told(1, 4), 9);
        same("rounds", k.roundsOf(0) * 10 + k.roundsOf(1), 15);
    }

    @Says({"Adds a TASK, NEW, without STEPS.", "Returns its number."})
    void promise06_addsANewOneWithoutSteps() {
        for (int task = 0; task < 16; task++) {
            BeadleKernel k = Scene.fresh(task);
            same("number", k.addTask(3, 2, 4), task);
            same("state", k.stateOf(task), Scene.NEW);
            same("step", k.stepOf(task), 0);
            same("stand", k.standOf(task), -1);
            same("tasks", k.tasks(), task + 1);
            same("no steps", k.addStep(task, Scene.RUN, 1), 1);
        }
    }

    // ---- 7 addStep

    @Says("Throws `IndexOutOfBoundsException` if there is no such TASK")
    void promise07_refusesNoSuchTask() {
        for (int wrong : besideTheTasks()) {
            refused("task " + wrong, INDEX, k -> k.addStep(wrong, Scene.RUN, 1));
        }
        refused("without tasks", BeadleKernel::new, INDEX, k -> k.addStep(0, Scene.RUN, 1));
        refused("of 16", () -> Scene.fresh(16), INDEX, k -> k.addStep(16, Scene.RUN, 1));
    }

    @Says("Throws `IllegalArgumentException` if code is not 0 to 6")
    void promise07_refusesCodesBeside0To6() {
        for (int wrong : beside(0, 6)) {
            refused("code " + wrong, ARGUMENT, k -> k.addStep(NEW_ONE, wrong, 1));
        }
    }

    private void refusesNumbers(int code, int least, int most) {
        for (int wrong : beside(least, most)) {
            refused("n " + wrong + " with " + code, ARGUMENT, k -> k.addStep(NEW_ONE, code, wrong));
        }
        BeadleKernel k = Scene.fresh(1);
        same("the least with " + code, k.addStep(0, code, least), 1);
        same("the most with " + code, k.addStep(0, code, most), 2);
    }

    @Says({"or n is not 1 to 20 with 0", "0 RUN n (1 to 20 ticks)"})
    void promise07_takesRunsOf1To20() {
        refusesNumbers(Scene.RUN, 1, 20);
    }

    @Says({"1 to 40 with 1", "1 SLEEP n (1 to 40 ticks)"})
    void promise07_takesSleepOf1To40() {
        refusesNumbers(Scene.SLEEP, 1, 40);
    }

    @Says({"0 to 5 with 2 to 5", "2 LOCK l (0 to 5)"})
    void promise07_takesLocks0To5() {
        refusesNumbers(Scene.LOCK, 0, 5);
    }

    @Says("0 to 5 with 2 to 5")
    void promise07_takesUnlocks0To5() {
        refusesNumbers(Scene.UNLOCK, 0, 5);
    }

    @Says({"0 to 5 with 2 to 5", "4 SIGNAL e (0 to 5)"})
    void promise07_takesSignals0To5() {
        refusesNumbers(Scene.SIGNAL, 0, 5);
    }

    @Says("0 to 5 with 2 to 5")
    void promise07_takesAwaits0To5() {
        refusesNumbers(Scene.AWAIT, 0, 5);
    }

    @Says("its n, l or e (with 6 not looked at)")
    void promise07_takesYieldWithAnyNumber() {
        BeadleKernel k = Scene.fresh(1);
        int[] numbers = {0, 1, -1, 41, LEAST, MOST};
        for (int i = 0; i < numbers.length; i++) {
            same("n " + numbers[i], k.addStep(0, Scene.YIELD, numbers[i]), i + 1);
        }
        k.addStep(0, Scene.RUN, 1);
        k.start(0);
        k.tick(1);
        same("it yields", k.stateOf(0) * 10 + k.stepOf(0), 11);
    }

    @Says("Throws `IllegalStateException` if it is not NEW")
    void promise07_refusesOneThatIsNotNew() {
        for (int task = 0; task < NOT_NEW; task++) {
            int asked = task;
            refused("task " + task, STATE, k -> k.addStep(asked, Scene.RUN, 1));
        }
    }

    private static BeadleKernel withSteps(int steps) {
        BeadleKernel k = Scene.fresh(2);
        for (int i = 0; i < steps; i++) {
            k.addStep(1, i % 2 == 0 ? Scene.SIGNAL : Scene.RUN, 1 + i / 8);
        }
        return k;
    }

    @Says({"or there are 16", "a PROGRAM of at most 16 STEPS, numbered from 0"})
    void promise07_refusesTheSeventeenth() {
        refused("one more", () -> withSteps(16), STATE, k -> k.addStep(1, Scene.RUN, 1));
        BeadleKernel k = withSteps(15);
        same("the sixteenth", k.addStep(1, Scene.RUN, 20), 16);
        same("of another task", k.addStep(0, Scene.RUN, 1), 1);
        same("16 can be started", k.start(1), 0);
    }

    @Says("If several exceptions apply, the one that is named first is thrown.")
    void promise07_namesTheIndexFirst() {
        for (int wrong : besideTheTasks()) {
            refused("code 7 of the task " + wrong, INDEX, k -> k.addStep(wrong, 7, 1));
            refused("n 0 of the task " + wrong, INDEX, k -> k.addStep(wrong, Scene.RUN, 0));
        }
    }

    @Says("If several exceptions apply, the one that is named first is thrown.")
    void promise07_namesTheArgumentAheadOfTheState() {
        for (int task = 0; task < NOT_NEW; task++) {
            int asked = task;
            refused("code 7 of the task " + task, ARGUMENT, k -> k.addStep(asked, 7, 1));
            refused("n 21 of the task " + task, ARGUMENT, k -> k.addStep(asked, Scene.RUN, 21));
        }
        refused("code 7 of 16", () -> withSteps(16), ARGUMENT, k -> k.addStep(1, 7, 1));
        refused("n 6 of 16", () -> withSteps(16), ARGUMENT, k -> k.addStep(1, Scene.AWAIT, 6));
    }

    @Says("Returns how many STEPS there are then.")
    void promise07_returnsHowManyThereAreThen() {
        BeadleKernel k = Scene.fresh(1);
        for (int steps = 1; steps <= 16; steps++) {
            same("steps", k.addStep(0, steps % 7, 1), steps);
        }
    }

    @Says("Adds a STEP to a PROGRAM, behind the others.")
    void promise07_addsBehindTheOthers() {
        BeadleKernel k = Scene.kernel(1);
        Scene.started(k, 0, Scene.SIGNAL, 0, Scene.RUN, 2, Scene.SLEEP, 1, Scene.SIGNAL, 5, Scene.RUN, 1);
        k.tick(2);
        same("the first ones", k.number(0) * 100 + k.number(5) * 10 + k.stepOf(0), 102);
        k.tick(2);
        same("all", k.number(0) * 100 + k.number(5) * 10 + k.stepOf(0), 115);
        same("who ran", Scene.ran(k, 0, 4), "00-0");
    }

    // ---- 8 start

    @Says("Throws `IndexOutOfBoundsException` if there is no such TASK")
    void promise08_refusesNoSuchTask() {
        for (int wrong : besideTheTasks()) {
            refused("task " + wrong, INDEX, k -> k.start(wrong));
        }
        refused("without tasks", BeadleKernel::new, INDEX, k -> k.start(0));
        refused("of 16", () -> Scene.fresh(16), INDEX, k -> k.start(16));
    }

    @Says("Throws `IllegalStateException` if it is not NEW")
    void promise08_refusesOneThatIsNotNew() {
        for (int task = 0; task < NOT_NEW; task++) {
            int asked = task;
            refused("task " + task, STATE, k -> k.start(asked));
        }
    }

    @Says("has no STEPS")
    void promise08_refusesOneWithoutSteps() {
        refused("no steps", () -> Scene.fresh(2), STATE, k -> k.start(1));
    }

    private static BeadleKernel endingWith(int code) {
        BeadleKernel k = new BeadleKernel();
        Scene.task(k, 0, 0, 1, Scene.RUN, 1, code, 1);
        Scene.task(k, 0, 0, 1, code, 1);
        return k;
    }

    @Says({"or its last STEP is no RUN", "the last STEP must be a RUN (see start())"})
    void promise08_refusesOneWhoseLastStepIsNoRun() {
        for (int code = Scene.SLEEP; code <= Scene.YIELD; code++) {
            int last = code;
            refused("behind a RUN: " + code, () -> endingWith(last), STATE, k -> k.start(0));
            refused("alone: " + code, () -> endingWith(last), STATE, k -> k.start(1));
            BeadleKernel k = endingWith(code);
            k.addStep(1, Scene.RUN, 1);
            same("with a RUN behind " + code, k.start(1), 0);
        }
        BeadleKernel k = endingWith(Scene.RUN);
        same("a RUN alone", k.start(1), 0);
    }

    @Says("its TIME is the least TIME of all others that are READY or RUNNING, or 0 without any (as of a NEW one)")
    void promise08_timeIs0WithoutAny() {
        BeadleKernel k = Scene.kernel(1);
        k.setWay(2, 1, 0);
        Scene.started(k, 0, Scene.RUN, 1, Scene.AWAIT, 0, Scene.RUN, 1);
        Scene.started(k, 0, Scene.RUN, 1, Scene.SLEEP, 40, Scene.RUN, 1);
        Scene.started(k, 0, Scene.RUN, 1);
        k.tick(10);
        same("awaiting, asleep and done", Scene.states(k), "536");
        int task = Scene.task(k, 0, 0, 1, Scene.RUN, 1);
        same("of a new one", k.keyOf(task), 0);
        k.start(task);
        same("no others are ready or running", k.keyOf(task), 0);
    }

    @Says("its TIME is the least TIME of all others that are READY or RUNNING, or 0 without any (as of a NEW one)")
    void promise08_timeIsTheLeastOfTheOthers() {
        BeadleKernel k = Scene.kernel(2);
        k.setWay(2, 1, 0);
        Scene.started(k, 7, Scene.RUN, 20);
        Scene.started(k, 6, Scene.RUN, 20);
        k.tick(1);
        same("running ones", k.keyOf(0) * 1000 + k.keyOf(1), 840420);
        same("the least", k.keyOf(Scene.started(k, 0, Scene.RUN, 20)), 420);
        k.setProcessors(1);
        k.end(2);
        k.end(1);
        same("one that is ready", k.keyOf(Scene.started(k, 0, Scene.RUN, 20)), 840);
    }

    @Says("Returns its STAND.")
    void promise08_returnsItsStand() {
        BeadleKernel k = new BeadleKernel();
        for (int task = 0; task < 16; task++) {
            Scene.task(k, 0, 0, 1, Scene.RUN, 1);
        }
        for (int task = 15; task >= 0; task--) {
            same("stand of " + task, k.start(task), 15 - task);
            same("asked", k.standOf(task), 15 - task);
            same("ready", k.stateOf(task), Scene.READY);
        }
    }

    // ---- 9 setRank

    @Says("Throws `IndexOutOfBoundsException` if there is no such TASK")
    void promise09_refusesNoSuchTask() {
        for (int wrong : besideTheTasks()) {
            refused("task " + wrong, INDEX, k -> k.setRank(wrong, 1));
        }
        refused("without tasks", BeadleKernel::new, INDEX, k -> k.setRank(0, 1));
        refused("of 16", () -> Scene.fresh(16), INDEX, k -> k.setRank(16, 1));
    }

    @Says("Throws `IllegalArgumentException` if rank is not 0 to 7")
    void promise09_refusesRanksBeside0To7() {
        for (int wrong : beside(0, 7)) {
            for (int task = 0; task < ALL; task++) {
                int asked = task;
                refused("rank " + wrong + " of " + task, ARGUMENT, k -> k.setRank(asked, wrong));
            }
        }
    }

    @Says("If several exceptions apply, the one that is named first is thrown.")
    void promise09_namesTheIndexFirst() {
        for (int wrong : besideTheTasks()) {
            refused("rank 8 of " + wrong, INDEX, k -> k.setRank(wrong, 8));
            refused("rank -1 of " + wrong, INDEX, k -> k.setRank(wrong, -1));
        }
    }

    @Says("Returns the one before.")
    void promise09_takes0To7InEachState() {
        int[] ranks = {3, 2, 4, 5, 6, 1, 7};
        BeadleKernel k = Scene.busy(0);
        for (int task = 0; task < ALL; task++) {
            same("before", k.setRank(task, 0), ranks[task]);
            same("key", k.keyOf(task), 0);
            same("before", k.setRank(task, 7), 0);
            same("key", k.keyOf(task), 7);
            same("before", k.setRank(task, 7), 7);
        }
        same("states stay", Scene.states(k), "2453610");
        same("stands stay", k.standOf(6), -1);
    }

    // ---- 10 end

    @Says("Throws `IndexOutOfBoundsException` if there is no such TASK")
    void promise10_refusesNoSuchTask() {
        for (int wrong : besideTheTasks()) {
            refused("task " + wrong, INDEX, k -> k.end(wrong));
        }
        refused("without tasks", BeadleKernel::new, INDEX, k -> k.end(0));
        refused("of 16", () -> Scene.fresh(16), INDEX, k -> k.end(16));
    }

    private static BeadleKernel ended(int task) {
        BeadleKernel k = Scene.busy(1);
        k.end(task);
        return k;
    }

    @Says("Throws `IllegalStateException` if it is DONE")
    void promise10_refusesOneThatIsDone() {
        refused("done in a tick", STATE, k -> k.end(4));
        for (int task = 0; task < ALL; task++) {
            int asked = task;
            if (task != 4) {
                refused("ended before: " + task, () -> ended(asked), STATE, k -> k.end(asked));
            }
        }
    }

    @Says({"Ends a TASK, in whatever STATE it is: it is DONE", "Returns the STATE that it had."})
    void promise10_endsInEachState() {
        int[] states = {2, 4, 5, 3, 6, 1, 0};
        for (int task = 0; task < ALL; task++) {
            if (task == 4) {
                continue;
            }
            BeadleKernel k = Scene.busy(2);
            same("the state that it had", k.end(task), states[task]);
            same("state", k.stateOf(task), Scene.DONE);
            same("the tick", k.told(task, 4), 5);
            k.tick(40);
            k.signal(2);
            k.signal(2);
            k.tick(1);
            same("for ever", k.stateOf(task) * 100 + k.told(task, 4), 605);
        }
    }

    @Says("it is DONE, has no processor")
    void promise10_hasNoProcessor() {
        for (int processor = 0; processor < 3; processor++) {
            BeadleKernel k = Scene.kernel(3);
            for (int task = 0; task < 3; task++) {
                Scene.started(k, 0, Scene.RUN, 20);
            }
            k.tick(1);
            int ended = k.on(processor);
            k.end(ended);
            for (int other = 0; other < 3; other++) {
                same("on " + other, k.on(other), other == processor ? -1 : other);
            }
            k.tick(1);
            same("it is idle then", k.ran(processor, 1), -1);
        }
    }

    @Says("is DONE, has no processor, and then UNLOCKS all LOCKS that it holds, by numbers")
    void promise10_unlocksAllByNumbers() {
        BeadleKernel k = Scene.kernel(3);
        int holder = Scene.started(k, 7, Scene.LOCK, 5, Scene.LOCK, 4, Scene.LOCK, 3, Scene.LOCK, 2, Scene.LOCK, 1,
                Scene.LOCK, 0, Scene.RUN, 20);
        k.tick(1);
        for (int lock = 5; lock >= 0; lock--) {
            Scene.started(k, lock, Scene.LOCK, lock, Scene.RUN, 1);
            k.tick(1);
            same("blocked at " + lock, k.blocked(lock), 1 << 6 - lock);
        }
        k.end(holder);
        for (int lock = 0; lock < 6; lock++) {
            int heir = 6 - lock;
            same("holder of " + lock, k.holder(lock), heir);
            same("stand of " + heir, k.standOf(heir), 7 + lock);
            same("state of " + heir, k.stateOf(heir) * 10 + k.stepOf(heir), 11);
        }
    }

    @Says("and then UNLOCKS all LOCKS that it holds")
    void promise10_unlocksByTheKeysOfNow() {
        BeadleKernel k = Scene.kernel(3);
        int holder = Scene.started(k, 7, Scene.LOCK, 0, Scene.RUN, 20);
        k.tick(1);
        Scene.started(k, 3, Scene.LOCK, 0, Scene.RUN, 1);
        Scene.started(k, 4, Scene.LOCK, 0, Scene.RUN, 1);
        k.tick(2);
        same("blocked", k.blocked(0), 6);
        k.setRank(2, 2);
        k.end(holder);
        same("the least key as it is now", k.holder(0), 2);
    }

    @Says("and then UNLOCKS all LOCKS that it holds, by numbers")
    void promise10_unlocksNoneWithoutLocks() {
        BeadleKernel k = Scene.busy(0);
        k.end(5);
        same("the locks of another", k.holder(0) * 10 + k.holder(1), 0);
        same("blocked", k.blocked(0), 2);
        k.end(1);
        same("nobody is blocked there", k.blocked(0), 0);
        k.end(0);
        same("free", k.holder(0) + k.holder(1), -2);
    }

    // ---- 11 signal

    @Says("Throws `IndexOutOfBoundsException` if there is no such EVENT")
    void promise11_refusesEventsBeside0To5() {
        for (int wrong : beside(0, 5)) {
            refused("event " + wrong, INDEX, k -> k.signal(wrong));
        }
    }

    @Says({"if there is none, the number of the EVENT is 1 more (not above 99)", "Returns its number then."})
    void promise11_countsUpTo99() {
        for (int event = 0; event < 6; event += 5) {
            BeadleKernel k = new BeadleKernel();
            for (int number = 1; number <= 99; number++) {
                same("number then", k.signal(event), number);
            }
            same("not above 99", k.signal(event), 99);
            same("not above 99", k.signal(event), 99);
            same("asked", k.number(event), 99);
            same("of the others", k.number(1) + k.number(4), 0);
        }
    }

    @Says({"SIGNALS an EVENT, as a TASK does.", "the one that came to AWAIT the EVENT first becomes READY behind that STEP"})
    void promise11_wakesTheFirst() {
        BeadleKernel k = Scene.kernel(1);
        Scene.started(k, 5, Scene.AWAIT, 5, Scene.RUN, 1);
        k.tick(1);
        Scene.started(k, 0, Scene.AWAIT, 5, Scene.RUN, 1);
        k.tick(1);
        same("both await", k.awaiting(5), 3);
        same("number", k.signal(5), 0);
        same("the first", k.awaiting(5), 2);
        same("ready behind the step", k.stateOf(0) * 10 + k.stepOf(0), 11);
        same("with a stand", k.standOf(0), 2);
        same("number", k.signal(5), 0);
        same("the second", k.standOf(1), 3);
        same("nobody is left", k.signal(5), 1);
        k.tick(2);
        same("in the next ticks they run", Scene.states(k), "66");
    }

    @Says("SIGNALS an EVENT, as a TASK does.")
    void promise11_wakesNoneAtOthers() {
        BeadleKernel k = Scene.kernel(1);
        Scene.started(k, 5, Scene.AWAIT, 4, Scene.RUN, 1);
        k.tick(1);
        same("another event", k.signal(5), 1);
        same("it awaits still", k.stateOf(0), Scene.AWAITING);
        // A LOCK of the same number is none of it.
        BeadleKernel lock = Scene.busy(0);
        same("event 0", lock.signal(0), 1);
        same("blocked still", lock.blocked(0), 2);
    }
}
