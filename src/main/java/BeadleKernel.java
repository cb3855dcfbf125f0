/** A scheduler of an operating system: tasks with programs share processors, tick by tick. */
public final class BeadleKernel {

    private static final int MOST_TASKS = 16;
    private static final int MOST_STEPS = 16;
    private static final int MOST_PROCESSORS = 3;
    private static final int MOST_ROUNDS = 5;
    private static final int MOST_QUANTUM = 10;
    private static final int MOST_BOOST = 50;
    private static final int MOST_QUOTA = 50;
    private static final int MOST_PERIOD = 50;
    private static final int MOST_LEVEL = 3;
    private static final int MOST_NUMBER = 99;
    private static final int MOST_RUN = 20;
    private static final int MOST_SLEEP = 40;
    private static final int MOST_TICKS = 40;
    private static final int MOST_TICKS_TRIED = 60;
    private static final int MOST_BACK = 30;

    private static final int RANKS = 8;
    private static final int GROUPS = 4;
    private static final int LOCKS = 6;
    private static final int EVENTS = 6;

    private static final int BY_RANK = 0;
    private static final int BY_LEVEL = 1;
    private static final int BY_TIME = 2;

    private static final int RUN = 0;
    private static final int SLEEP = 1;
    private static final int LOCK = 2;
    private static final int UNLOCK = 3;
    private static final int SIGNAL = 4;
    private static final int AWAIT = 5;
    private static final int YIELD = 6;

    private static final int NEW = 0;
    private static final int READY = 1;
    private static final int RUNNING = 2;
    private static final int ASLEEP = 3;
    private static final int BLOCKED = 4;
    private static final int AWAITING = 5;
    private static final int DONE = 6;

    private static final int NONE = -1;
    private static final int NO_SUCH_TICK = -2;
    private static final int TIME_SHARED = 840;
    private static final long DIGEST_START = 58049L;
    private static final long DIGEST_FACTOR = 31L;
    private static final int BACK_IN_DIGEST = 5;
    private static final int THINGS_TOLD = 5;

    private final Machine now;
    // What would be is tried out here, again and again, so that no question makes a new machine.
    private final Machine trial;

    public BeadleKernel() {
        now = new Machine();
        trial = new Machine();
    }

    // ---- what is set

    public int setProcessors(int processors) throws IllegalArgumentException {
        requireArgument(processors >= 1 && processors <= MOST_PROCESSORS);
        int before = now.settings.processors;
        now.clearProcessors();
        now.settings.processors = processors;
        return before;
    }

    public int setWay(int way, int quantum, int boost) throws IllegalArgumentException {
        requireArgument(way >= BY_RANK && way <= BY_TIME);
        requireArgument(quantum >= 1 && quantum <= MOST_QUANTUM);
        requireArgument(boost >= 0 && boost <= MOST_BOOST);
        int before = now.settings.way;
        now.settings.way = way;
        now.settings.quantum = quantum;
        now.settings.boost = boost;
        return before;
    }

    public int setQuota(int group, int quota) throws IndexOutOfBoundsException, IllegalArgumentException {
        int[] quotas = now.settings.quotas;
        if (group < 0 || group >= quotas.length) {
            throw new IndexOutOfBoundsException("no such group");
        }
        requireArgument(quota >= 0 && quota <= MOST_QUOTA);
        int before = quotas[group];
        quotas[group] = quota;
        return before;
    }

    public int setPeriod(int period) throws IllegalArgumentException {
        requireArgument(period >= 1 && period <= MOST_PERIOD);
        int before = now.settings.period;
        now.settings.period = period;
        return before;
    }

    // ---- tasks

    public int addTask(int rank, int group, int rounds) throws IllegalArgumentException, IllegalStateException {
        requireArgument(rank >= 0 && rank < RANKS);
        requireArgument(group >= 0 && group < GROUPS);
        requireArgument(rounds >= 1 && rounds <= MOST_ROUNDS);
        int number = now.taskCount;
        Task added = now.taskAt(number);
        if (added == null) {
            throw new IllegalStateException("no room for another task");
        }
        added.rank = rank;
        added.group = group;
        added.program.rounds = rounds;
        now.taskCount = number + 1;
        return number;
    }

    public int addStep(int task, int code, int n)
            throws IndexOutOfBoundsException, IllegalArgumentException, IllegalStateException {
        Task asked = requireTask(task);
        requireArgument(isStep(code, n));
        Program program = asked.program;
        requireState(asked.state == NEW && program.length < MOST_STEPS);
        program.append(code, n);
        return program.length;
    }

    public int start(int task) throws IndexOutOfBoundsException, IllegalStateException {
        Task started = requireTask(task);
        requireState(started.state == NEW && started.program.endsWithRun());
        now.startTask(started);
        return started.stand;
    }

    public int setRank(int task, int rank) throws IndexOutOfBoundsException, IllegalArgumentException {
        Task asked = requireTask(task);
        requireArgument(rank >= 0 && rank < RANKS);
        int before = asked.rank;
        asked.rank = rank;
        return before;
    }

    public int end(int task) throws IndexOutOfBoundsException, IllegalStateException {
        Task ended = requireTask(task);
        requireState(ended.state != DONE);
        int before = ended.state;
        now.finish(ended);
        return before;
    }

    public int signal(int event) throws IndexOutOfBoundsException {
        requireEvent(event);
        now.giveSignal(event);
        return now.numberOf(event);
    }

    public int tick(int ticks) throws IllegalArgumentException {
        requireArgument(ticks >= 1 && ticks <= MOST_TICKS);
        for (int i = 0; i < ticks; i++) {
            now.passTick();
        }
        return now.clock;
    }

    // ---- tasks, asked

    public int clock() {
        return now.clock;
    }

    public int tasks() {
        return now.taskCount;
    }

    public int stateOf(int task) throws IndexOutOfBoundsException {
        return requireTask(task).state;
    }

    public int stepOf(int task) throws IndexOutOfBoundsException {
        Task asked = requireTask(task);
        return asked.state == DONE ? asked.program.length : asked.step;
    }

    public int roundsOf(int task) throws IndexOutOfBoundsException {
        return requireTask(task).roundsDone;
    }

    public int keyOf(int task) throws IndexOutOfBoundsException {
        return requireTask(task).key(now.settings.way);
    }

    public int lentKey(int task) throws IndexOutOfBoundsException {
        Task asked = requireTask(task);
        now.findLentKeys();
        return asked.lent;
    }

    public int standOf(int task) throws IndexOutOfBoundsException {
        return requireTask(task).stand;
    }

    public int levelOf(int task) throws IndexOutOfBoundsException {
        return requireTask(task).level;
    }

    public int told(int task, int what) throws IndexOutOfBoundsException, IllegalArgumentException {
        Task asked = requireTask(task);
        requireArgument(what >= 0 && what < THINGS_TOLD);
        return asked.tally.tell(what);
    }

    // ---- processors, groups, locks and events, asked

    public int processors() {
        return now.settings.processors;
    }

    public int on(int processor) throws IndexOutOfBoundsException {
        requireProcessor(processor);
        return now.onProcessor(processor);
    }

    public int ran(int processor, int back) throws IndexOutOfBoundsException, IllegalArgumentException {
        requireProcessor(processor);
        requireArgument(back >= 1 && back <= MOST_BACK);
        return now.trace.ranIn(processor, now.clock - back);
    }

    public int switches() {
        return now.trace.switches;
    }

    public int idle() {
        return now.trace.idle;
    }

    public int used(int group) throws IndexOutOfBoundsException {
        int[] counted = now.counted;
        if (group < 0 || group >= counted.length) {
            throw new IndexOutOfBoundsException("no such group");
        }
        return counted[group];
    }

    public int holder(int lock) throws IndexOutOfBoundsException {
        requireLock(lock);
        return now.holderOf(lock);
    }

    public int blocked(int lock) throws IndexOutOfBoundsException {
        requireLock(lock);
        return now.waitersAt(BLOCKED, lock);
    }

    public int number(int event) throws IndexOutOfBoundsException {
        requireEvent(event);
        return now.numberOf(event);
    }

    public int awaiting(int event) throws IndexOutOfBoundsException {
        requireEvent(event);
        return now.waitersAt(AWAITING, event);
    }

    public int stuck() {
        return now.stuckTasks();
    }

    public double load() {
        int offered = now.trace.offered;
        if (offered <= 0) {
            return 0.0;
        }
        return (double) (offered - now.trace.idle) / (double) offered;
    }

    // ---- what would be (nothing is changed)

    public int doneIn(int task, int ticks) throws IndexOutOfBoundsException, IllegalArgumentException {
        return doneWith(task, requireTask(task).rank, ticks);
    }

    public int doneWith(int task, int rank, int ticks) throws IndexOutOfBoundsException, IllegalArgumentException {
        requireTask(task);
        requireArgument(rank >= 0 && rank < RANKS);
        requireTicksTried(ticks);
        trial.copyFrom(now);
        Task tried = trial.taskAt(task);
        if (tried == null) {
            return NONE;
        }
        tried.rank = rank;
        for (int passed = 0; passed < ticks; passed++) {
            if (tried.state == DONE) {
                return passed;
            }
            trial.passTick();
        }
        return tried.state == DONE ? ticks : NONE;
    }

    public int idleIn(int ticks) throws IllegalArgumentException {
        requireTicksTried(ticks);
        trial.copyFrom(now);
        for (int i = 0; i < ticks; i++) {
            trial.passTick();
        }
        return trial.trace.idle - now.trace.idle;
    }

    public int stuckIn(int ticks) throws IllegalArgumentException {
        requireTicksTried(ticks);
        trial.copyFrom(now);
        for (int passed = 0; passed < ticks; passed++) {
            if (trial.stuckTasks() != 0) {
                return passed;
            }
            trial.passTick();
        }
        return trial.stuckTasks() != 0 ? ticks : NONE;
    }

    public long digest() {
        long d = DIGEST_START;
        d = d * DIGEST_FACTOR + clock();
        d = d * DIGEST_FACTOR + tasks();
        d = d * DIGEST_FACTOR + processors();
        d = d * DIGEST_FACTOR + switches();
        d = d * DIGEST_FACTOR + idle();
        d = d * DIGEST_FACTOR + stuck();
        for (int task = 0; task < tasks(); task++) {
            d = digestTask(d, task);
        }
        for (int processor = 0; processor < processors(); processor++) {
            d = digestProcessor(d, processor);
        }
        for (int group = 0; group < GROUPS; group++) {
            d = d * DIGEST_FACTOR + used(group);
        }
        for (int lock = 0; lock < LOCKS; lock++) {
            d = d * DIGEST_FACTOR + holder(lock);
            d = d * DIGEST_FACTOR + blocked(lock);
        }
        for (int event = 0; event < EVENTS; event++) {
            d = d * DIGEST_FACTOR + number(event);
            d = d * DIGEST_FACTOR + awaiting(event);
        }
        return d;
    }

    private long digestTask(long start, int task) {
        long d = start;
        d = d * DIGEST_FACTOR + stateOf(task);
        d = d * DIGEST_FACTOR + stepOf(task);
        d = d * DIGEST_FACTOR + roundsOf(task);
        d = d * DIGEST_FACTOR + keyOf(task);
        d = d * DIGEST_FACTOR + lentKey(task);
        d = d * DIGEST_FACTOR + standOf(task);
        d = d * DIGEST_FACTOR + levelOf(task);
        for (int what = 0; what < THINGS_TOLD; what++) {
            d = d * DIGEST_FACTOR + told(task, what);
        }
        return d;
    }

    private long digestProcessor(long start, int processor) {
        long d = start * DIGEST_FACTOR + on(processor);
        for (int back = 1; back <= BACK_IN_DIGEST; back++) {
            d = d * DIGEST_FACTOR + ran(processor, back);
        }
        return d;
    }

    // ---- what a call may ask for

    private static void requireArgument(boolean allowed) {
        if (!allowed) {
            throw new IllegalArgumentException("an argument is out of its range");
        }
    }

    private static void requireState(boolean allowed) {
        if (!allowed) {
            throw new IllegalStateException("the task is not fit for this");
        }
    }

    private static void requireTicksTried(int ticks) {
        requireArgument(ticks >= 1 && ticks <= MOST_TICKS_TRIED);
    }

    private static void requireLock(int lock) {
        if (lock < 0 || lock >= LOCKS) {
            throw new IndexOutOfBoundsException("no such lock");
        }
    }

    private static void requireEvent(int event) {
        if (event < 0 || event >= EVENTS) {
            throw new IndexOutOfBoundsException("no such event");
        }
    }

    private void requireProcessor(int processor) {
        if (processor < 0 || processor >= now.settings.processors) {
            throw new IndexOutOfBoundsException("no such processor");
        }
    }

    private Task requireTask(int task) {
        Task found = now.taskAt(task);
        if (found == null || task >= now.taskCount) {
            throw new IndexOutOfBoundsException("no such task");
        }
        return found;
    }

    private static boolean isStep(int code, int n) {
        switch (code) {
            case RUN:
                return n >= 1 && n <= MOST_RUN;
            case SLEEP:
                return n >= 1 && n <= MOST_SLEEP;
            case LOCK:
            case UNLOCK:
                return n >= 0 && n < LOCKS;
            case SIGNAL:
            case AWAIT:
                return n >= 0 && n < EVENTS;
            default:
                return code == YIELD;
        }
    }

    /** What is set from outside; ticks change nothing of it. */
    private static final class Settings {
        int processors = 1;
        int way = BY_RANK;
        int quantum = 3;
        int boost = 0;
        int period = 10;
        final int[] quotas = new int[GROUPS];

        void copyFrom(Settings other) {
            processors = other.processors;
            way = other.way;
            quantum = other.quantum;
            boost = other.boost;
            period = other.period;
            System.arraycopy(other.quotas, 0, quotas, 0, GROUPS);
        }

        boolean begins(int tick, int length) {
            return length > 0 && tick % length == 0;
        }

        boolean endsTurn(int level, int ticksOnProcessor) {
            switch (way) {
                case BY_RANK:
                    return ticksOnProcessor >= quantum;
                case BY_LEVEL:
                    return ticksOnProcessor >= quantum << level;
                default:
                    return false;
            }
        }
    }

    /** The steps of a task and how often they are gone through. */
    private static final class Program {
        int rounds = 1;
        int length;
        final int[] codes = new int[MOST_STEPS];
        final int[] numbers = new int[MOST_STEPS];

        void copyFrom(Program other) {
            rounds = other.rounds;
            length = other.length;
            System.arraycopy(other.codes, 0, codes, 0, MOST_STEPS);
            System.arraycopy(other.numbers, 0, numbers, 0, MOST_STEPS);
        }

        void append(int code, int n) {
            if (length >= 0 && length < MOST_STEPS) {
                codes[length] = code;
                numbers[length] = n;
                length++;
            }
        }

        int codeAt(int step) {
            return step >= 0 && step < MOST_STEPS ? codes[step] : RUN;
        }

        int numberAt(int step) {
            return step >= 0 && step < MOST_STEPS ? numbers[step] : 0;
        }

        boolean endsWithRun() {
            return length > 0 && codeAt(length - 1) == RUN;
        }
    }

    /** What is told about a task. */
    private static final class Tally {
        int ticksRun;
        int ticksWaited;
        int ticksHeldUp;
        int firstTick = NONE;
        int doneTick = NONE;

        void copyFrom(Tally other) {
            ticksRun = other.ticksRun;
            ticksWaited = other.ticksWaited;
            ticksHeldUp = other.ticksHeldUp;
            firstTick = other.firstTick;
            doneTick = other.doneTick;
        }

        void countRun(int tick) {
            if (ticksRun == 0) {
                firstTick = tick;
            }
            ticksRun++;
        }

        int tell(int what) {
            switch (what) {
                case 0:
                    return ticksRun;
                case 1:
                    return ticksWaited;
                case 2:
                    return ticksHeldUp;
                case 3:
                    return firstTick;
                default:
                    return doneTick;
            }
        }
    }

    private static final class Task {
        final int number;
        final Program program = new Program();
        final Tally tally = new Tally();
        int rank;
        int group;
        int state = NEW;
        int step;
        int ticksOfStep;
        int roundsDone;
        int stand = NONE;
        int level;
        int time;
        int ticksOnProcessor;
        // The lock, the event or the tick that it waits for: a state waits for one kind of these only.
        int waitsFor = NONE;
        int arrival;
        // Right only just behind findLentKeys().
        int lent;

        Task(int itsNumber) {
            number = itsNumber;
        }

        void copyFrom(Task other) {
            program.copyFrom(other.program);
            tally.copyFrom(other.tally);
            rank = other.rank;
            group = other.group;
            state = other.state;
            step = other.step;
            ticksOfStep = other.ticksOfStep;
            roundsDone = other.roundsDone;
            stand = other.stand;
            level = other.level;
            time = other.time;
            ticksOnProcessor = other.ticksOnProcessor;
            waitsFor = other.waitsFor;
            arrival = other.arrival;
            lent = other.lent;
        }

        int key(int way) {
            switch (way) {
                case BY_RANK:
                    return rank;
                case BY_LEVEL:
                    return level;
                default:
                    return time;
            }
        }

        boolean waitsAt(int waitingState, int place) {
            return state == waitingState && waitsFor == place;
        }

        boolean isThrough() {
            return roundsDone >= program.rounds;
        }

        boolean comesAhead(Task other) {
            if (lent != other.lent) {
                return lent < other.lent;
            }
            if (state != other.state) {
                return state == RUNNING;
            }
            return stand < other.stand;
        }

        boolean inheritsAhead(Task other) {
            return lent != other.lent ? lent < other.lent : arrival < other.arrival;
        }

        void addTime() {
            int share = RANKS - rank;
            if (share > 0) {
                time += TIME_SHARED / share;
            }
        }

        void countTickOfStep() {
            ticksOfStep++;
            if (ticksOfStep < program.numberAt(step)) {
                return;
            }
            ticksOfStep = 0;
            step++;
            if (step >= program.length) {
                step = 0;
                roundsDone++;
            }
        }
    }

    /** What went by on the processors. */
    private static final class Trace {
        int switches;
        int idle;
        int offered;
        // Of each processor the latest ticks, each at its number modulo MOST_BACK.
        final int[][] ran = new int[MOST_PROCESSORS][MOST_BACK];

        void copyFrom(Trace other) {
            switches = other.switches;
            idle = other.idle;
            offered = other.offered;
            for (int i = 0; i < MOST_PROCESSORS; i++) {
                System.arraycopy(other.ran[i], 0, ran[i], 0, MOST_BACK);
            }
        }

        void note(int processor, int tick, int task) {
            if (processor >= 0 && processor < MOST_PROCESSORS && tick >= 0) {
                ran[processor][tick % MOST_BACK] = task;
            }
        }

        void countOffer(boolean taken) {
            offered++;
            if (!taken) {
                idle++;
            }
        }

        int ranIn(int processor, int tick) {
            if (processor < 0 || processor >= MOST_PROCESSORS || tick < 0) {
                return NO_SUCH_TICK;
            }
            return ran[processor][tick % MOST_BACK];
        }
    }

    /** All that is so at one moment, and how a tick changes it. */
    private static final class Machine {
        final Settings settings = new Settings();
        final Trace trace = new Trace();
        final Task[] tasks = new Task[MOST_TASKS];
        final int[] counted = new int[GROUPS];
        final int[] holders = new int[LOCKS];
        final int[] numbers = new int[EVENTS];
        final int[] on = new int[MOST_PROCESSORS];
        final int[] taken = new int[MOST_PROCESSORS];
        final int[] takenOfGroup = new int[GROUPS];
        int clock;
        int taskCount;
        int nextStand;
        int nextArrival;

        Machine() {
            for (int i = 0; i < MOST_TASKS; i++) {
                tasks[i] = new Task(i);
            }
            for (int i = 0; i < LOCKS; i++) {
                holders[i] = NONE;
            }
            for (int i = 0; i < MOST_PROCESSORS; i++) {
                on[i] = NONE;
            }
        }

        void copyFrom(Machine other) {
            settings.copyFrom(other.settings);
            trace.copyFrom(other.trace);
            for (int i = 0; i < MOST_TASKS; i++) {
                tasks[i].copyFrom(other.tasks[i]);
            }
            System.arraycopy(other.counted, 0, counted, 0, GROUPS);
            System.arraycopy(other.holders, 0, holders, 0, LOCKS);
            System.arraycopy(other.numbers, 0, numbers, 0, EVENTS);
            System.arraycopy(other.on, 0, on, 0, MOST_PROCESSORS);
            clock = other.clock;
            taskCount = other.taskCount;
            nextStand = other.nextStand;
            nextArrival = other.nextArrival;
        }

        // -- asked

        Task taskAt(int number) {
            return number >= 0 && number < MOST_TASKS ? tasks[number] : null;
        }

        int onProcessor(int processor) {
            return processor >= 0 && processor < MOST_PROCESSORS ? on[processor] : NONE;
        }

        int holderOf(int lock) {
            return lock >= 0 && lock < LOCKS ? holders[lock] : NONE;
        }

        int numberOf(int event) {
            return event >= 0 && event < EVENTS ? numbers[event] : 0;
        }

        int tasksIn(int state) {
            int set = 0;
            for (Task task : tasks) {
                if (task.state == state) {
                    set |= 1 << task.number;
                }
            }
            return set;
        }

        int waitersAt(int waitingState, int place) {
            int set = 0;
            for (Task task : tasks) {
                if (task.waitsAt(waitingState, place)) {
                    set |= 1 << task.number;
                }
            }
            return set;
        }

        int stuckTasks() {
            int set = 0;
            for (Task task : tasks) {
                if (isStuck(task)) {
                    set |= 1 << task.number;
                }
            }
            return set;
        }

        private boolean isStuck(Task task) {
            Task reached = task;
            // A way of more tasks than there are goes round in a ring.
            for (int i = 0; i < MOST_TASKS; i++) {
                if (reached == null || reached.state != BLOCKED) {
                    return false;
                }
                reached = taskAt(holderOf(reached.waitsFor));
            }
            return reached != null && reached.state == BLOCKED;
        }

        void findLentKeys() {
            for (Task task : tasks) {
                task.lent = task.key(settings.way);
            }
            boolean changed = true;
            // A key is lent over no more tasks than there are, one further in each pass at least.
            for (int pass = 0; pass < MOST_TASKS && changed; pass++) {
                changed = false;
                for (Task task : tasks) {
                    Task holder = task.state == BLOCKED ? taskAt(holderOf(task.waitsFor)) : null;
                    if (holder != null && task.lent < holder.lent) {
                        holder.lent = task.lent;
                        changed = true;
                    }
                }
            }
        }

        // -- states

        void startTask(Task task) {
            int least = leastTimeBeside(task);
            task.time = least == NONE ? 0 : least;
            makeReady(task);
        }

        private void makeReady(Task task) {
            task.state = READY;
            task.stand = nextStand;
            nextStand++;
        }

        private void wake(Task task) {
            if (settings.way == BY_LEVEL && task.level > 0) {
                task.level--;
            }
            if (settings.way == BY_TIME) {
                int least = leastTimeBeside(task);
                if (task.time < least) {
                    task.time = least;
                }
            }
            makeReady(task);
        }

        /** The least time of all others that are ready or running, NONE without any. */
        private int leastTimeBeside(Task task) {
            int least = NONE;
            for (Task other : tasks) {
                boolean counts = other != task && (other.state == READY || other.state == RUNNING);
                if (counts && (least == NONE || other.time < least)) {
                    least = other.time;
                }
            }
            return least;
        }

        private void leaveProcessor(Task task) {
            for (int i = 0; i < MOST_PROCESSORS; i++) {
                if (on[i] == task.number) {
                    on[i] = NONE;
                }
            }
        }

        void clearProcessors() {
            for (int i = 0; i < MOST_PROCESSORS; i++) {
                on[i] = NONE;
            }
            for (Task task : tasks) {
                if (task.state == RUNNING) {
                    task.state = READY;
                }
            }
        }

        void finish(Task task) {
            leaveProcessor(task);
            task.state = DONE;
            task.tally.doneTick = clock;
            for (int lock = 0; lock < LOCKS; lock++) {
                unlockBy(task, lock);
            }
        }

        private void unlockBy(Task task, int lock) {
            if (lock < 0 || lock >= LOCKS || holders[lock] != task.number) {
                return;
            }
            findLentKeys();
            Task heir = null;
            for (Task waiter : tasks) {
                if (waiter.waitsAt(BLOCKED, lock) && (heir == null || waiter.inheritsAhead(heir))) {
                    heir = waiter;
                }
            }
            holders[lock] = heir == null ? NONE : heir.number;
            if (heir != null) {
                heir.step++;
                wake(heir);
            }
        }

        void giveSignal(int event) {
            if (event < 0 || event >= EVENTS) {
                return;
            }
            Task first = null;
            for (Task task : tasks) {
                if (task.waitsAt(AWAITING, event) && (first == null || task.arrival < first.arrival)) {
                    first = task;
                }
            }
            if (first != null) {
                first.step++;
                wake(first);
            } else if (numbers[event] < MOST_NUMBER) {
                numbers[event]++;
            }
        }

        // -- a tick

        void passTick() {
            beginPeriods();
            wakeSleepers();
            endTurns();
            shareProcessors();
            for (int i = 0; i < MOST_PROCESSORS; i++) {
                Task task = taskAt(on[i]);
                passSteps(task);
                boolean runs = task != null && task.state == RUNNING;
                trace.note(i, clock, runs ? task.number : NONE);
                if (i < settings.processors) {
                    trace.countOffer(runs);
                }
                if (runs) {
                    runTick(task);
                }
                if (runs && task.isThrough()) {
                    finish(task);
                }
            }
            countWaits();
            clock++;
        }

        private void beginPeriods() {
            if (settings.begins(clock, settings.period)) {
                for (int i = 0; i < GROUPS; i++) {
                    counted[i] = 0;
                }
            }
            if (settings.way == BY_LEVEL && settings.begins(clock, settings.boost)) {
                for (Task task : tasks) {
                    task.level = 0;
                }
            }
        }

        private void wakeSleepers() {
            for (Task task : tasks) {
                if (task.state == ASLEEP && task.waitsFor <= clock) {
                    wake(task);
                }
            }
        }

        private void endTurns() {
            for (int i = 0; i < MOST_PROCESSORS; i++) {
                Task task = taskAt(on[i]);
                if (task != null && settings.endsTurn(task.level, task.ticksOnProcessor)) {
                    on[i] = NONE;
                    makeReady(task);
                    if (settings.way == BY_LEVEL && task.level < MOST_LEVEL) {
                        task.level++;
                    }
                }
            }
        }

        private void shareProcessors() {
            findLentKeys();
            int takenCount = takeInOrder();
            for (int i = 0; i < MOST_PROCESSORS; i++) {
                Task task = taskAt(on[i]);
                if (task != null && !isTaken(task, takenCount)) {
                    on[i] = NONE;
                    task.state = READY;
                }
            }
            for (int i = 0; i < takenCount && i < MOST_PROCESSORS; i++) {
                Task task = taskAt(taken[i]);
                if (task != null && task.state == READY) {
                    switchTo(task);
                }
            }
        }

        /** Puts those that are taken into taken, as they come, and answers how many they are. */
        private int takeInOrder() {
            int left = tasksIn(READY) | tasksIn(RUNNING);
            int takenCount = 0;
            for (int i = 0; i < GROUPS; i++) {
                takenOfGroup[i] = 0;
            }
            for (int i = 0; i < MOST_TASKS && takenCount < settings.processors; i++) {
                Task next = firstOf(left);
                if (next == null) {
                    return takenCount;
                }
                left &= ~(1 << next.number);
                if (takenCount < MOST_PROCESSORS && takeOfGroup(next.group)) {
                    taken[takenCount] = next.number;
                    takenCount++;
                }
            }
            return takenCount;
        }

        private Task firstOf(int set) {
            Task first = null;
            for (Task task : tasks) {
                boolean comes = (set & (1 << task.number)) != 0;
                if (comes && (first == null || task.comesAhead(first))) {
                    first = task;
                }
            }
            return first;
        }

        private boolean takeOfGroup(int group) {
            if (group < 0 || group >= GROUPS) {
                return false;
            }
            int quota = settings.quotas[group];
            if (quota != 0 && counted[group] + takenOfGroup[group] >= quota) {
                return false;
            }
            takenOfGroup[group]++;
            return true;
        }

        private boolean isTaken(Task task, int takenCount) {
            for (int i = 0; i < takenCount && i < MOST_PROCESSORS; i++) {
                if (taken[i] == task.number) {
                    return true;
                }
            }
            return false;
        }

        private void switchTo(Task task) {
            for (int i = 0; i < settings.processors && i < MOST_PROCESSORS; i++) {
                if (on[i] == NONE) {
                    on[i] = task.number;
                    task.state = RUNNING;
                    task.ticksOnProcessor = 0;
                    trace.switches++;
                    return;
                }
            }
        }

        /** Goes through the steps that take no time, up to a run or to where it stops. */
        private void passSteps(Task task) {
            for (int i = 0; i < MOST_STEPS && task != null && task.state == RUNNING; i++) {
                int at = task.step;
                int code = task.program.codeAt(at);
                int n = task.program.numberAt(at);
                if (code == RUN) {
                    return;
                }
                task.step = at + 1;
                switch (code) {
                    case SLEEP:
                        waitFor(task, ASLEEP, clock + n);
                        break;
                    case LOCK:
                        lockBy(task, n);
                        break;
                    case UNLOCK:
                        unlockBy(task, n);
                        break;
                    case SIGNAL:
                        giveSignal(n);
                        break;
                    case AWAIT:
                        awaitBy(task, n);
                        break;
                    default:
                        leaveProcessor(task);
                        makeReady(task);
                        break;
                }
                if (task.state == BLOCKED || task.state == AWAITING) {
                    // It stands at its step until it gets what it waits for.
                    task.step = at;
                }
            }
        }

        private void waitFor(Task task, int waitingState, int what) {
            leaveProcessor(task);
            task.state = waitingState;
            task.waitsFor = what;
            task.arrival = nextArrival;
            nextArrival++;
        }

        private void lockBy(Task task, int lock) {
            if (lock < 0 || lock >= LOCKS || holders[lock] == task.number) {
                return;
            }
            if (holders[lock] == NONE) {
                holders[lock] = task.number;
            } else {
                waitFor(task, BLOCKED, lock);
            }
        }

        private void awaitBy(Task task, int event) {
            if (event < 0 || event >= EVENTS) {
                return;
            }
            if (numbers[event] > 0) {
                numbers[event]--;
            } else {
                waitFor(task, AWAITING, event);
            }
        }

        private void runTick(Task task) {
            if (task.group >= 0 && task.group < GROUPS) {
                counted[task.group]++;
            }
            task.tally.countRun(clock);
            task.ticksOnProcessor++;
            if (settings.way == BY_TIME) {
                task.addTime();
            }
            task.countTickOfStep();
        }

        private void countWaits() {
            for (Task task : tasks) {
                if (task.state == READY) {
                    task.tally.ticksWaited++;
                }
                if (task.state == BLOCKED) {
                    task.tally.ticksHeldUp++;
                }
            }
        }
    }
}
