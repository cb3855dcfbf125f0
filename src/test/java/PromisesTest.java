/** The calls one by one: ordinary inputs, the edges of each range, and wrong inputs. */
public final class PromisesTest {

    private static final int LEAST = Integer.MIN_VALUE;
    private static final int MOST = Integer.MAX_VALUE;
    private static final Class<IllegalArgumentException> ARGUMENT = IllegalArgumentException.class;
    private static final Class<IllegalStateException> STATE = IllegalStateException.class;
    private static final Class<IndexOutOfBoundsException> INDEX = IndexOutOfBoundsException.class;

    private final Checks checks = new Checks("PromisesTest");

    public static void main(String[] args) {
        PromisesTest test = new PromisesTest();
        test.newObject();
        test.setProcessors();
        test.setWay();
        test.setWayKeepsWhatIs();
        test.setQuota();
        test.setPeriod();
        test.addTask();
        test.addStep();
        test.addStepWrong();
        test.start();
        test.startTime();
        test.setRank();
        test.endInEachState();
        test.endPassesLocksOn();
        test.signal();
        test.tick();
        test.stepAndRounds();
        test.keys();
        test.standAndLevel();
        test.told();
        test.onAndRan();
        test.switchesIdleLoad();
        test.used();
        test.locksAsked();
        test.eventsAsked();
        test.askedWrong();
        test.digest();
        test.checks.close();
    }

    private void newObject() {
        BeadleKernel k = new BeadleKernel();
        checks.same("1 processors", k.processors(), 1);
        checks.same("1 tasks", k.tasks(), 0);
        checks.same("1 clock", k.clock(), 0);
        checks.same("1 switches", k.switches(), 0);
        checks.same("1 idle", k.idle(), 0);
        checks.same("1 stuck", k.stuck(), 0);
        checks.same("1 load", k.load(), 0.0);
        checks.same("1 on", k.on(0), -1);
        checks.same("1 ran", k.ran(0, 1), -2);
        for (int i = 0; i < 6; i++) {
            checks.same("1 holder", k.holder(i), -1);
            checks.same("1 blocked", k.blocked(i), 0);
            checks.same("1 number", k.number(i), 0);
            checks.same("1 awaiting", k.awaiting(i), 0);
        }
        for (int group = 0; group < 4; group++) {
            checks.same("1 used", k.used(group), 0);
            checks.same("1 quota", k.setQuota(group, 1), 0);
        }
        checks.same("1 period", k.setPeriod(1), 10);
        checks.same("1 way", k.setWay(1, 1, 0), 0);
        BeadleKernel turns = new BeadleKernel();
        Scene.started(turns, 3, Scene.RUN, 20);
        Scene.started(turns, 3, Scene.RUN, 20);
        turns.tick(10);
        checks.same("1 quantum 3 at first", Scene.ran(turns, 0, 10), "0001110001");
    }

    private void setProcessors() {
        BeadleKernel k = new BeadleKernel();
        for (int wrong : new int[] {0, 4, -1, LEAST, MOST}) {
            checks.refused("2 setProcessors(" + wrong + ")", k, ARGUMENT, () -> k.setProcessors(wrong));
        }
        checks.same("2 before", k.setProcessors(3), 1);
        checks.same("2 before", k.setProcessors(2), 3);
        checks.same("2 set", k.processors(), 2);
        Scene.started(k, 1, Scene.RUN, 9);
        Scene.started(k, 2, Scene.RUN, 9);
        k.tick(1);
        checks.same("2 running", Scene.states(k), "22");
        checks.same("2 before", k.setProcessors(2), 2);
        checks.same("2 all ready", Scene.states(k), "11");
        checks.same("2 nobody has a processor", k.on(0) + k.on(1), -2);
        checks.same("2 stands kept", k.standOf(0) * 10 + k.standOf(1), 1);
        k.tick(1);
        checks.same("2 taken anew is a switch", k.switches(), 4);
        k.setProcessors(1);
        k.tick(2);
        checks.same("2 one is left", Scene.states(k), "21");
        checks.refused("2 on(1)", k, INDEX, () -> k.on(1));
        checks.same("2 the stand is not new", k.standOf(1), 1);
        BeadleKernel turn = new BeadleKernel();
        Scene.started(turn, 1, Scene.RUN, 9);
        Scene.started(turn, 1, Scene.RUN, 9);
        turn.tick(2);
        turn.setProcessors(1);
        turn.tick(3);
        checks.same("2 its ticks begin anew, its stand is first", Scene.ran(turn, 0, 5), "00000");
    }

    private void setWay() {
        BeadleKernel k = new BeadleKernel();
        for (int wrong : new int[] {-1, 3, LEAST, MOST}) {
            checks.refused("3 way " + wrong, k, ARGUMENT, () -> k.setWay(wrong, 1, 0));
        }
        for (int wrong : new int[] {0, 11, -1, LEAST, MOST}) {
            checks.refused("3 quantum " + wrong, k, ARGUMENT, () -> k.setWay(1, wrong, 0));
        }
        for (int wrong : new int[] {-1, 51, LEAST, MOST}) {
            checks.refused("3 boost " + wrong, k, ARGUMENT, () -> k.setWay(1, 1, wrong));
        }
        checks.same("3 before", k.setWay(2, 10, 50), 0);
        checks.same("3 before", k.setWay(1, 1, 0), 2);
        checks.same("3 before", k.setWay(0, 5, 7), 1);
        checks.same("3 before", k.setWay(0, 5, 7), 0);
    }

    private void setWayKeepsWhatIs() {
        BeadleKernel k = new BeadleKernel();
        k.setWay(1, 1, 0);
        Scene.started(k, 4, Scene.RUN, 20);
        k.tick(2);
        checks.same("3 level", k.levelOf(0), 1);
        k.setWay(2, 1, 0);
        checks.same("3 level kept", k.levelOf(0), 1);
        checks.same("3 time is the key", k.keyOf(0), 0);
        k.tick(2);
        checks.same("3 time", k.keyOf(0), 420);
        k.setWay(1, 1, 0);
        checks.same("3 level is the key", k.keyOf(0), 1);
        k.setWay(0, 5, 0);
        checks.same("3 rank is the key", k.keyOf(0), 4);
        k.setWay(2, 1, 0);
        checks.same("3 time kept", k.keyOf(0), 420);
        BeadleKernel turn = Scene.kernel(1);
        Scene.started(turn, 1, Scene.RUN, 9);
        Scene.started(turn, 1, Scene.RUN, 9);
        turn.tick(4);
        turn.setWay(0, 3, 0);
        turn.tick(1);
        checks.same("3 ticks on the processor kept", Scene.ran(turn, 0, 5), "00001");
    }

    private void setQuota() {
        BeadleKernel k = new BeadleKernel();
        for (int wrong : new int[] {-1, 4, LEAST, MOST}) {
            checks.refused("4 group " + wrong, k, INDEX, () -> k.setQuota(wrong, 1));
            checks.refused("4 the index is named first", k, INDEX, () -> k.setQuota(wrong, 51));
        }
        for (int wrong : new int[] {-1, 51, LEAST, MOST}) {
            checks.refused("4 quota " + wrong, k, ARGUMENT, () -> k.setQuota(3, wrong));
        }
        checks.same("4 before", k.setQuota(3, 50), 0);
        checks.same("4 before", k.setQuota(3, 0), 50);
        checks.same("4 before", k.setQuota(0, 1), 0);
        checks.same("4 before", k.setQuota(3, 2), 0);
        checks.same("4 before", k.setQuota(0, 2), 1);
        checks.same("4 before", k.setQuota(3, 2), 2);
    }

    private void setPeriod() {
        BeadleKernel k = new BeadleKernel();
        for (int wrong : new int[] {0, 51, -1, LEAST, MOST}) {
            checks.refused("5 period " + wrong, k, ARGUMENT, () -> k.setPeriod(wrong));
        }
        checks.same("5 before", k.setPeriod(50), 10);
        checks.same("5 before", k.setPeriod(1), 50);
        checks.same("5 before", k.setPeriod(4), 1);
        Scene.started(k, 0, Scene.RUN, 20);
        k.tick(4);
        checks.same("5 counted till the period ends", k.used(0), 4);
        k.setPeriod(3);
        checks.same("5 setPeriod counts nothing anew", k.used(0), 4);
        k.tick(1);
        checks.same("5 tick 4 begins none of 3", k.used(0), 5);
        k.tick(2);
        checks.same("5 tick 6 begins one", k.used(0), 1);
        k.setPeriod(1);
        k.tick(3);
        checks.same("5 each tick begins one of 1", k.used(0), 1);
    }

    private void addTask() {
        BeadleKernel k = new BeadleKernel();
        for (int wrong : new int[] {-1, 8, LEAST, MOST}) {
            checks.refused("6 rank " + wrong, k, ARGUMENT, () -> k.addTask(wrong, 0, 1));
        }
        for (int wrong : new int[] {-1, 4, LEAST, MOST}) {
            checks.refused("6 group " + wrong, k, ARGUMENT, () -> k.addTask(0, wrong, 1));
        }
        for (int wrong : new int[] {0, 6, -1, LEAST, MOST}) {
            checks.refused("6 rounds " + wrong, k, ARGUMENT, () -> k.addTask(0, 0, wrong));
        }
        for (int i = 0; i < 16; i++) {
            checks.same("6 number", k.addTask(i % 8, i % 4, 1 + i % 5), i);
            checks.same("14 tasks", k.tasks(), i + 1);
            checks.same("6 new", k.stateOf(i), Scene.NEW);
            checks.same("6 rank", k.keyOf(i), i % 8);
            checks.same("6 without steps", k.addStep(i, Scene.RUN, 1), 1);
        }
        checks.refused("6 sixteen", k, STATE, () -> k.addTask(0, 0, 1));
        checks.refused("6 the argument is named first", k, ARGUMENT, () -> k.addTask(8, 0, 1));
        checks.same("6 sixteen", k.tasks(), 16);
    }

    private void addStep() {
        BeadleKernel k = new BeadleKernel();
        k.addTask(0, 0, 1);
        int[][] steps = {{0, 1}, {0, 20}, {1, 1}, {1, 40}, {2, 0}, {2, 5}, {3, 0}, {3, 5}, {4, 0}, {4, 5}, {5, 0},
            {5, 5}, {6, LEAST}, {6, MOST}, {6, 0}, {0, 7}};
        for (int i = 0; i < steps.length; i++) {
            checks.same("7 steps", k.addStep(0, steps[i][0], steps[i][1]), i + 1);
        }
        checks.refused("7 sixteen", k, STATE, () -> k.addStep(0, Scene.RUN, 1));
        checks.refused("7 the argument is named first", k, ARGUMENT, () -> k.addStep(0, Scene.RUN, 0));
        checks.same("7 a step starts nothing", k.stateOf(0), Scene.NEW);
        Scene.started(k, 0, Scene.RUN, 1);
        checks.refused("7 ready", k, STATE, () -> k.addStep(1, Scene.RUN, 1));
        k.end(0);
        checks.refused("7 done", k, STATE, () -> k.addStep(0, Scene.RUN, 1));
        checks.same("7 each task has its own", k.addStep(k.addTask(0, 0, 1), Scene.YIELD, 0), 1);
    }

    private void addStepWrong() {
        BeadleKernel k = new BeadleKernel();
        k.addTask(0, 0, 1);
        for (int wrong : Scene.WRONG_TASKS) {
            checks.refused("7 task " + wrong, k, INDEX, () -> k.addStep(wrong, 0, 1));
            checks.refused("7 the index is named first", k, INDEX, () -> k.addStep(wrong, 7, 1));
        }
        checks.refused("7 task 1", k, INDEX, () -> k.addStep(1, 0, 1));
        for (int wrong : new int[] {-1, 7, LEAST, MOST}) {
            checks.refused("7 code " + wrong, k, ARGUMENT, () -> k.addStep(0, wrong, 1));
        }
        int[] most = {20, 40, 5, 5, 5, 5};
        for (int i = 0; i < most.length; i++) {
            int code = i;
            int least = code < 2 ? 1 : 0;
            for (int wrong : new int[] {least - 1, most[code] + 1, LEAST, MOST}) {
                checks.refused("7 n " + wrong + " with " + code, k, ARGUMENT, () -> k.addStep(0, code, wrong));
            }
        }
        checks.same("7 nothing was added", k.addStep(0, 0, 1), 1);
    }

    private void start() {
        BeadleKernel k = new BeadleKernel();
        for (int wrong : Scene.WRONG_TASKS) {
            checks.refused("8 task " + wrong, k, INDEX, () -> k.start(wrong));
        }
        checks.refused("8 task 0", k, INDEX, () -> k.start(0));
        k.addTask(0, 0, 1);
        checks.refused("8 no steps", k, STATE, () -> k.start(0));
        k.addStep(0, Scene.RUN, 1);
        k.addStep(0, Scene.SLEEP, 1);
        checks.refused("8 the last is no run", k, STATE, () -> k.start(0));
        k.addStep(0, Scene.RUN, 1);
        Scene.task(k, 0, 0, 1, Scene.RUN, 1);
        checks.same("8 stand", k.start(1), 0);
        checks.same("8 stand", k.start(0), 1);
        checks.same("8 ready", Scene.states(k), "11");
        checks.same("8 standOf", k.standOf(0), 1);
        checks.refused("8 ready", k, STATE, () -> k.start(0));
        k.tick(1);
        checks.refused("8 done", k, STATE, () -> k.start(1));
    }

    private void startTime() {
        BeadleKernel k = new BeadleKernel();
        k.setWay(2, 1, 0);
        Scene.started(k, 0, Scene.RUN, 20);
        checks.same("8 time without others", k.keyOf(0), 0);
        k.tick(2);
        checks.same("8 time of rank 0", k.keyOf(0), 210);
        int late = Scene.task(k, 7, 0, 1, Scene.RUN, 20);
        checks.same("8 time of a new one", k.keyOf(late), 0);
        k.setWay(0, 1, 0);
        k.start(late);
        k.setWay(2, 1, 0);
        checks.same("8 the least time of the others, in each way", k.keyOf(late), 210);
        k.tick(1);
        checks.same("8 it ran the least time, the smaller rank still running", k.keyOf(0), 315);
        int third = Scene.started(k, 0, Scene.RUN, 1);
        checks.same("8 the least, not the latest", k.keyOf(third), 210);
        BeadleKernel alone = new BeadleKernel();
        alone.setWay(2, 1, 0);
        Scene.started(alone, 0, Scene.RUN, 2, Scene.SLEEP, 40, Scene.RUN, 1);
        alone.tick(3);
        int other = Scene.started(alone, 0, Scene.RUN, 1);
        checks.same("8 one that is asleep does not count", alone.keyOf(other), 0);
    }

    private void setRank() {
        BeadleKernel k = new BeadleKernel();
        for (int wrong : Scene.WRONG_TASKS) {
            checks.refused("9 task " + wrong, k, INDEX, () -> k.setRank(wrong, 0));
            checks.refused("9 the index is named first", k, INDEX, () -> k.setRank(wrong, 8));
        }
        Scene.started(k, 3, Scene.RUN, 9);
        checks.refused("9 task 1", k, INDEX, () -> k.setRank(1, 0));
        for (int wrong : new int[] {-1, 8, LEAST, MOST}) {
            checks.refused("9 rank " + wrong, k, ARGUMENT, () -> k.setRank(0, wrong));
        }
        checks.same("9 before", k.setRank(0, 7), 3);
        checks.same("9 before", k.setRank(0, 0), 7);
        checks.same("9 before", k.setRank(0, 4), 0);
        checks.same("9 key", k.keyOf(0), 4);
        Scene.started(k, 4, Scene.RUN, 9);
        k.tick(1);
        k.setRank(1, 3);
        k.tick(1);
        checks.same("9 the new rank counts", Scene.ran(k, 0, 2), "01");
        k.end(1);
        checks.same("9 one that is done", k.setRank(1, 5), 3);
    }

    private void endInEachState() {
        BeadleKernel k = Scene.kernel(3);
        for (int wrong : Scene.WRONG_TASKS) {
            checks.refused("10 task " + wrong, k, INDEX, () -> k.end(wrong));
        }
        int holder = Scene.started(k, 0, Scene.LOCK, 2, Scene.RUN, 20);
        int blocked = Scene.started(k, 1, Scene.LOCK, 2, Scene.RUN, 1);
        int awaiting = Scene.started(k, 2, Scene.AWAIT, 4, Scene.RUN, 1);
        k.tick(1);
        int asleep = Scene.started(k, 3, Scene.SLEEP, 9, Scene.RUN, 1);
        k.tick(1);
        int ready = Scene.started(k, 4, Scene.RUN, 20);
        int fresh = Scene.task(k, 5, 0, 1, Scene.RUN, 1, Scene.YIELD, 0);
        checks.refused("10 no such task", k, INDEX, () -> k.end(fresh + 1));
        checks.same("10 before", Scene.states(k), "245310");
        checks.same("10 blocked", k.end(blocked), Scene.BLOCKED);
        checks.same("10 blocked no more", k.blocked(2), 0);
        checks.same("10 awaiting", k.end(awaiting), Scene.AWAITING);
        checks.same("10 awaiting no more", k.awaiting(4), 0);
        checks.same("10 asleep", k.end(asleep), Scene.ASLEEP);
        checks.same("10 ready", k.end(ready), Scene.READY);
        checks.same("10 new", k.end(fresh), Scene.NEW);
        checks.same("10 steps of one that is done", k.stepOf(fresh), 2);
        checks.same("10 never had a stand", k.standOf(fresh), -1);
        checks.same("10 running", k.end(holder), Scene.RUNNING);
        checks.same("10 no processor", k.on(0), -1);
        checks.same("10 free again", k.holder(2), -1);
        checks.same("10 all done", Scene.states(k), "666666");
        checks.same("10 done at the clock", k.told(fresh, 4), 2);
        checks.same("10 what ran stays", k.ran(0, 1), holder);
        checks.refused("10 done", k, STATE, () -> k.end(holder));
        k.signal(4);
        checks.same("10 no event for the dead", k.number(4), 1);
        k.tick(20);
        checks.same("10 nobody wakes", Scene.states(k), "666666");
        checks.same("10 the tick of it stays", k.told(asleep, 4), 2);
    }

    private void endPassesLocksOn() {
        BeadleKernel k = Scene.kernel(3);
        int holder = Scene.started(k, 5, Scene.LOCK, 5, Scene.LOCK, 1, Scene.RUN, 20);
        k.tick(1);
        int first = Scene.started(k, 2, Scene.LOCK, 5, Scene.RUN, 3);
        int second = Scene.started(k, 1, Scene.LOCK, 1, Scene.RUN, 3);
        k.tick(1);
        checks.same("10 both blocked", Scene.states(k), "244");
        k.end(holder);
        checks.same("10 both ready", Scene.states(k), "611");
        checks.same("10 lock 1 is passed on ahead of 5", k.standOf(second), 3);
        checks.same("10 lock 5 is passed on behind it", k.standOf(first), 4);
        checks.same("10 holder", k.holder(1), second);
        checks.same("10 holder", k.holder(5), first);
        checks.same("10 behind the step", k.stepOf(first), 1);
    }

    private void signal() {
        BeadleKernel k = Scene.kernel(1);
        for (int wrong : new int[] {-1, 6, LEAST, MOST}) {
            checks.refused("11 event " + wrong, k, INDEX, () -> k.signal(wrong));
        }
        for (int i = 1; i <= 99; i++) {
            checks.same("11 number then", k.signal(5), i);
        }
        checks.same("11 not above 99", k.signal(5), 99);
        checks.same("11 the others", k.number(4), 0);
        int awaiting = Scene.started(k, 3, Scene.AWAIT, 0, Scene.RUN, 1);
        k.tick(1);
        checks.same("11 awaiting", k.awaiting(0), 1);
        checks.same("11 number with one that awaits it", k.signal(0), 0);
        checks.same("11 ready behind the step", k.stateOf(awaiting) * 10 + k.stepOf(awaiting), 11);
        checks.same("11 with a new stand", k.standOf(awaiting), 1);
        checks.same("11 nobody is left", k.signal(0), 1);
    }

    private void tick() {
        BeadleKernel k = new BeadleKernel();
        for (int wrong : new int[] {0, 41, -1, LEAST, MOST}) {
            checks.refused("12 ticks " + wrong, k, ARGUMENT, () -> k.tick(wrong));
        }
        checks.same("12 clock then", k.tick(1), 1);
        checks.same("12 clock then", k.tick(40), 41);
        checks.same("13 clock", k.clock(), 41);
        checks.same("12 so many", k.idle(), 41);
    }

    private void stepAndRounds() {
        BeadleKernel k = Scene.kernel(1);
        int task = Scene.task(k, 0, 0, 2, Scene.RUN, 2, Scene.YIELD, 0, Scene.SLEEP, 2, Scene.RUN, 1);
        checks.same("16 new", k.stepOf(task), 0);
        checks.same("17 new", k.roundsOf(task), 0);
        k.start(task);
        int[] steps = {0, 1, 2, 3, 3, 0, 0, 1, 2, 3, 3, 4};
        int[] states = {2, 2, 1, 3, 3, 2, 2, 2, 1, 3, 3, 6};
        for (int i = 0; i < steps.length; i++) {
            k.tick(1);
            checks.same("16 step behind tick " + i, k.stepOf(task), steps[i]);
            checks.same("15 state behind tick " + i, k.stateOf(task), states[i]);
            checks.same("17 rounds behind tick " + i, k.roundsOf(task), i < 5 ? 0 : i < 11 ? 1 : 2);
        }
        int other = Scene.started(k, 0, Scene.RUN, 1, Scene.AWAIT, 1, Scene.RUN, 1);
        k.tick(2);
        checks.same("16 awaiting there", k.stepOf(other), 1);
        k.end(other);
        checks.same("16 ended", k.stepOf(other), 3);
        checks.same("17 ended", k.roundsOf(other), 0);
    }

    private void keys() {
        BeadleKernel k = Scene.kernel(1);
        int low = Scene.started(k, 6, Scene.LOCK, 0, Scene.RUN, 20);
        k.tick(1);
        int high = Scene.started(k, 1, Scene.LOCK, 0, Scene.RUN, 1);
        checks.same("19 ready lends nothing", k.lentKey(low), 6);
        k.tick(1);
        checks.same("18 key", k.keyOf(low), 6);
        checks.same("19 lent", k.lentKey(low), 1);
        checks.same("19 of itself", k.lentKey(high), 1);
        k.setRank(high, 7);
        checks.same("19 never above its own", k.lentKey(low), 6);
        k.setRank(high, 0);
        k.setWay(1, 1, 0);
        checks.same("18 level", k.keyOf(low), 0);
        k.setWay(2, 1, 0);
        checks.same("18 time", k.keyOf(low), 0);
        k.tick(1);
        checks.same("18 time is more", k.keyOf(low), 420);
        checks.same("19 the time of the blocked", k.lentKey(low), 0);
        k.setWay(0, 1, 0);
        k.end(high);
        checks.same("19 nobody lends any more", k.lentKey(low), 6);
    }

    private void standAndLevel() {
        BeadleKernel k = new BeadleKernel();
        k.setWay(1, 1, 0);
        int task = Scene.task(k, 0, 0, 1, Scene.RUN, 20);
        checks.same("20 never had one", k.standOf(task), -1);
        checks.same("21 level at first", k.levelOf(task), 0);
        k.start(task);
        // The turns end at the ticks 1, 3, 7 and 15.
        int[] levels = {0, 1, 1, 2, 2, 2, 2, 3, 3, 3, 3, 3, 3, 3, 3, 3, 3};
        int[] stands = {0, 1, 1, 2, 2, 2, 2, 3, 3, 3, 3, 3, 3, 3, 3, 4, 4};
        for (int i = 0; i < levels.length; i++) {
            k.tick(1);
            checks.same("21 level behind tick " + i, k.levelOf(task), levels[i]);
            checks.same("20 stand behind tick " + i, k.standOf(task), stands[i]);
        }
    }

    private void told() {
        BeadleKernel k = Scene.kernel(1);
        int first = Scene.started(k, 1, Scene.RUN, 1, Scene.SLEEP, 1, Scene.LOCK, 3, Scene.RUN, 1);
        int second = Scene.started(k, 2, Scene.LOCK, 3, Scene.RUN, 3);
        for (int wrong : new int[] {-1, 5, LEAST, MOST}) {
            checks.refused("22 what " + wrong, k, ARGUMENT, () -> k.told(first, wrong));
            checks.refused("22 the index is named first", k, INDEX, () -> k.told(2, wrong));
        }
        tellsAll(k, first, 0, 0, 0, -1, -1);
        k.tick(1);
        tellsAll(k, first, 1, 0, 0, 0, -1);
        tellsAll(k, second, 0, 1, 0, -1, -1);
        // Tick 1: the first falls asleep on the processor, which is idle then.
        k.tick(1);
        tellsAll(k, first, 1, 0, 0, 0, -1);
        tellsAll(k, second, 0, 2, 0, -1, -1);
        // Tick 2: the first wakes, is taken, and locks 3 as nobody holds it; it is done in it.
        k.tick(1);
        tellsAll(k, first, 2, 0, 0, 0, 2);
        tellsAll(k, second, 0, 3, 0, -1, -1);
        // Tick 3: the second locks 3.
        k.tick(1);
        tellsAll(k, second, 1, 3, 0, 3, -1);
        int third = Scene.started(k, 0, Scene.LOCK, 3, Scene.RUN, 1);
        // Tick 4: the third is blocked; tick 5: the second is done and passes the lock on, but not yet; it has 3.
        k.tick(1);
        tellsAll(k, third, 0, 0, 1, -1, -1);
        tellsAll(k, second, 1, 4, 0, 3, -1);
        k.tick(1);
        tellsAll(k, third, 0, 0, 2, -1, -1);
        k.tick(1);
        tellsAll(k, third, 0, 1, 2, -1, -1);
        tellsAll(k, second, 3, 4, 0, 3, 6);
        k.tick(1);
        tellsAll(k, third, 1, 1, 2, 7, 7);
    }

    private void tellsAll(BeadleKernel k, int task, int... want) {
        for (int what = 0; what < want.length; what++) {
            checks.same("22 told(" + task + ", " + what + ") at " + k.clock(), k.told(task, what), want[what]);
        }
    }

    private void onAndRan() {
        BeadleKernel k = Scene.kernel(2);
        Scene.started(k, 1, Scene.RUN, 2);
        Scene.started(k, 2, Scene.RUN, 1);
        checks.same("24 nobody yet", k.on(0), -1);
        k.tick(1);
        checks.same("24 on", k.on(0), 0);
        checks.same("24 done has none", k.on(1), -1);
        checks.same("25 but it ran there", k.ran(1, 1), 1);
        k.tick(1);
        checks.same("25 idle", k.ran(1, 1), -1);
        checks.same("25 no such tick", k.ran(1, 3), -2);
        checks.same("25 the first tick", k.ran(1, 2), 1);
        k.setProcessors(3);
        checks.same("25 was not there", k.ran(2, 2), -1);
        checks.same("25 no such tick for it either", k.ran(2, 3), -2);
        for (int wrong : new int[] {-1, 3, LEAST, MOST}) {
            checks.refused("24 processor " + wrong, k, INDEX, () -> k.on(wrong));
            checks.refused("25 processor " + wrong, k, INDEX, () -> k.ran(wrong, 1));
            checks.refused("25 the index is named first", k, INDEX, () -> k.ran(wrong, 0));
        }
        for (int wrong : new int[] {0, 31, -1, LEAST, MOST}) {
            checks.refused("25 back " + wrong, k, ARGUMENT, () -> k.ran(0, wrong));
        }
        checks.same("23 processors", k.processors(), 3);
        BeadleKernel left = Scene.kernel(2);
        Scene.started(left, 1, Scene.RUN, 3);
        Scene.started(left, 2, Scene.RUN, 20);
        left.tick(1);
        left.setProcessors(1);
        left.tick(1);
        left.setProcessors(2);
        left.tick(1);
        checks.same("25 as a processor was away", Scene.ran(left, 1, 4), ".1-1");
        BeadleKernel far = Scene.kernel(1);
        Scene.started(far, 0, Scene.RUN, 1);
        far.tick(29);
        checks.same("25 29 ticks back", far.ran(0, 29), 0);
        checks.same("25 no tick 30 back", far.ran(0, 30), -2);
        far.tick(1);
        checks.same("25 30 ticks back", far.ran(0, 30), 0);
        far.tick(1);
        checks.same("25 31 ticks back is gone", far.ran(0, 30), -1);
    }

    private void switchesIdleLoad() {
        BeadleKernel k = Scene.kernel(2);
        Scene.started(k, 1, Scene.RUN, 2);
        k.tick(3);
        checks.same("26 switches", k.switches(), 1);
        checks.same("27 idle", k.idle(), 4);
        checks.same("34 load", k.load(), 2.0 / 6.0);
        k.setProcessors(1);
        k.tick(1);
        checks.same("27 idle of one", k.idle(), 5);
        checks.same("34 of those that there were then", k.load(), 2.0 / 7.0);
        BeadleKernel full = Scene.kernel(1);
        Scene.started(full, 1, Scene.RUN, 9);
        full.tick(9);
        checks.same("34 full", full.load(), 1.0);
        checks.same("27 never idle", full.idle(), 0);
        BeadleKernel yields = Scene.kernel(1);
        Scene.started(yields, 1, Scene.YIELD, 0, Scene.YIELD, 0, Scene.RUN, 1);
        yields.tick(3);
        checks.same("26 one of each tick", yields.switches(), 3);
        checks.same("27 a tick without a run is idle", yields.idle(), 2);
        checks.same("34 not cut", yields.load(), 1.0 / 3.0);
    }

    private void used() {
        BeadleKernel k = Scene.kernel(2);
        k.start(Scene.task(k, 0, 3, 1, Scene.RUN, 20));
        k.start(Scene.task(k, 0, 1, 1, Scene.YIELD, 0, Scene.RUN, 2));
        k.tick(2);
        checks.same("28 of 3", k.used(3), 2);
        checks.same("28 a tick without a run does not count", k.used(1), 1);
        checks.same("28 of others", k.used(0) + k.used(2), 0);
        k.tick(8);
        checks.same("28 the period is over at the next tick", k.used(3), 10);
        checks.same("28 one that is done still counts", k.used(1), 2);
        k.tick(1);
        checks.same("28 counted from then on", k.used(3), 1);
        checks.same("28 counted from then on", k.used(1), 0);
        for (int wrong : new int[] {-1, 4, LEAST, MOST}) {
            checks.refused("28 group " + wrong, k, INDEX, () -> k.used(wrong));
        }
    }

    private void locksAsked() {
        BeadleKernel k = Scene.kernel(3);
        Scene.started(k, 3, Scene.LOCK, 5, Scene.LOCK, 0, Scene.RUN, 2, Scene.UNLOCK, 5, Scene.RUN, 1);
        Scene.started(k, 4, Scene.LOCK, 5, Scene.RUN, 9);
        Scene.started(k, 5, Scene.LOCK, 5, Scene.RUN, 9);
        k.tick(1);
        checks.same("29 holder", k.holder(5), 0);
        checks.same("29 holder", k.holder(0), 0);
        checks.same("29 without one", k.holder(1), -1);
        checks.same("30 blocked", k.blocked(5), 6);
        checks.same("30 none", k.blocked(0), 0);
        k.tick(2);
        checks.same("29 passed on", k.holder(5), 1);
        checks.same("30 one is left", k.blocked(5), 4);
        for (int wrong : new int[] {-1, 6, LEAST, MOST}) {
            checks.refused("29 lock " + wrong, k, INDEX, () -> k.holder(wrong));
            checks.refused("30 lock " + wrong, k, INDEX, () -> k.blocked(wrong));
        }
    }

    private void eventsAsked() {
        BeadleKernel k = Scene.kernel(3);
        Scene.started(k, 3, Scene.AWAIT, 5, Scene.RUN, 1);
        Scene.started(k, 3, Scene.AWAIT, 0, Scene.RUN, 1);
        Scene.started(k, 3, Scene.AWAIT, 5, Scene.RUN, 1);
        k.tick(1);
        checks.same("32 awaiting", k.awaiting(5), 5);
        checks.same("32 awaiting", k.awaiting(0), 2);
        checks.same("32 none", k.awaiting(1), 0);
        checks.same("31 number", k.number(5), 0);
        k.signal(5);
        k.signal(5);
        k.signal(5);
        checks.same("31 number", k.number(5), 1);
        checks.same("32 none left", k.awaiting(5), 0);
        for (int wrong : new int[] {-1, 6, LEAST, MOST}) {
            checks.refused("31 event " + wrong, k, INDEX, () -> k.number(wrong));
            checks.refused("32 event " + wrong, k, INDEX, () -> k.awaiting(wrong));
        }
    }

    private void askedWrong() {
        BeadleKernel empty = new BeadleKernel();
        askedWrong(empty, 0);
        BeadleKernel k = new BeadleKernel();
        Scene.started(k, 0, Scene.RUN, 1);
        askedWrong(k, 1);
        for (int wrong : Scene.WRONG_TASKS) {
            askedWrong(k, wrong);
        }
    }

    private void askedWrong(BeadleKernel k, int task) {
        checks.refused("15 task " + task, k, INDEX, () -> k.stateOf(task));
        checks.refused("16 task " + task, k, INDEX, () -> k.stepOf(task));
        checks.refused("17 task " + task, k, INDEX, () -> k.roundsOf(task));
        checks.refused("18 task " + task, k, INDEX, () -> k.keyOf(task));
        checks.refused("19 task " + task, k, INDEX, () -> k.lentKey(task));
        checks.refused("20 task " + task, k, INDEX, () -> k.standOf(task));
        checks.refused("21 task " + task, k, INDEX, () -> k.levelOf(task));
        checks.refused("22 task " + task, k, INDEX, () -> k.told(task, 0));
        checks.refused("35 task " + task, k, INDEX, () -> k.doneIn(task, 1));
        checks.refused("36 task " + task, k, INDEX, () -> k.doneWith(task, 0, 1));
    }

    private void digest() {
        BeadleKernel k = new BeadleKernel();
        long d = 58049;
        long[] first = {0, 0, 1, 0, 0, 0, -1, -2, -2, -2, -2, -2, 0, 0, 0, 0};
        for (long x : first) {
            d = d * 31 + x;
        }
        for (int lock = 0; lock < 6; lock++) {
            d = (d * 31 - 1) * 31;
        }
        for (int event = 0; event < 6; event++) {
            d = d * 31 * 31;
        }
        checks.same("39 of a new one", k.digest(), d);
        k.setProcessors(3);
        Scene.started(k, 5, Scene.LOCK, 1, Scene.SIGNAL, 3, Scene.RUN, 9);
        Scene.started(k, 6, Scene.AWAIT, 2, Scene.RUN, 9);
        Scene.started(k, 2, Scene.LOCK, 1, Scene.RUN, 9);
        k.addTask(7, 3, 2);
        k.tick(3);
        checks.same("39 of what is asked", k.digest(), digestOf(k));
        checks.same("39 changes nothing", k.digest(), digestOf(k));
        BeadleKernel ring = new BeadleKernel();
        ring.setProcessors(2);
        ring.setWay(1, 1, 0);
        Scene.started(ring, 3, Scene.LOCK, 0, Scene.RUN, 3, Scene.LOCK, 1, Scene.RUN, 1);
        Scene.started(ring, 3, Scene.LOCK, 1, Scene.RUN, 3, Scene.LOCK, 0, Scene.RUN, 1);
        int third = Scene.task(ring, 2, 1, 3, Scene.SIGNAL, 3, Scene.RUN, 3);
        ring.start(third);
        ring.tick(9);
        checks.isTrue("39 is stuck, has rounds, levels and numbers behind it", ring.stuck() == 3
                && ring.roundsOf(third) == 2 && ring.levelOf(third) == 2 && ring.number(3) == 3);
        checks.same("39 of all this", ring.digest(), digestOf(ring));
    }

    private static long digestOf(BeadleKernel k) {
        long d = 58049;
        for (int x : new int[] {k.clock(), k.tasks(), k.processors(), k.switches(), k.idle(), k.stuck()}) {
            d = d * 31 + x;
        }
        for (int t = 0; t < k.tasks(); t++) {
            int[] asked = {k.stateOf(t), k.stepOf(t), k.roundsOf(t), k.keyOf(t), k.lentKey(t), k.standOf(t),
                k.levelOf(t), k.told(t, 0), k.told(t, 1), k.told(t, 2), k.told(t, 3), k.told(t, 4)};
            for (int x : asked) {
                d = d * 31 + x;
            }
        }
        for (int p = 0; p < k.processors(); p++) {
            int[] asked = {k.on(p), k.ran(p, 1), k.ran(p, 2), k.ran(p, 3), k.ran(p, 4), k.ran(p, 5)};
            for (int x : asked) {
                d = d * 31 + x;
            }
        }
        for (int group = 0; group < 4; group++) {
            d = d * 31 + k.used(group);
        }
        for (int lock = 0; lock < 6; lock++) {
            d = (d * 31 + k.holder(lock)) * 31 + k.blocked(lock);
        }
        for (int event = 0; event < 6; event++) {
            d = (d * 31 + k.number(event)) * 31 + k.awaiting(event);
        }
        return d;
    }
}
