import java.util.ArrayDeque;
import java.util.ArrayList;
import java.util.Comparator;
import java.util.Deque;
import java.util.HashMap;
import java.util.HashSet;
import java.util.List;
import java.util.Map;
import java.util.Set;

/**
 * A second scheduler, written from the document alone and in another way than BeadleKernel: queues for those that
 * wait, sorted lists, lent keys by search. It looks at no argument; the test that drives it knows what is refused.
 */
final class Model {

    static final class Job {
        int number;
        int rank;
        int group;
        int rounds;
        List<int[]> program = new ArrayList<>();
        int state = 0;
        int step = 0;
        int part = 0;
        int gone = 0;
        int stand = -1;
        int level = 0;
        int time = 0;
        int had = 0;
        int wakesAt = 0;
        int[] told = {0, 0, 0, -1, -1};

        Job copy() {
            Job job = new Job();
            job.number = number;
            job.rank = rank;
            job.group = group;
            job.rounds = rounds;
            job.program = new ArrayList<>(program);
            job.state = state;
            job.step = step;
            job.part = part;
            job.gone = gone;
            job.stand = stand;
            job.level = level;
            job.time = time;
            job.had = had;
            job.wakesAt = wakesAt;
            job.told = told.clone();
            return job;
        }
    }

    final List<Job> jobs = new ArrayList<>();
    final List<Integer> cpus = new ArrayList<>(List.of(-1));
    final Map<Integer, Integer> holders = new HashMap<>();
    final List<Deque<Integer>> blocked = queues();
    final List<Deque<Integer>> awaiting = queues();
    int[] signals = new int[6];
    int[] quotas = new int[4];
    int[] used = new int[4];
    final List<int[]> history = new ArrayList<>();
    int way = 0;
    int quantum = 3;
    int boost = 0;
    int period = 10;
    int clock = 0;
    int stands = 0;
    int switches = 0;
    int idle = 0;
    int busy = 0;

    private static List<Deque<Integer>> queues() {
        List<Deque<Integer>> queues = new ArrayList<>();
        for (int i = 0; i < 6; i++) {
            queues.add(new ArrayDeque<>());
        }
        return queues;
    }

    Model copy() {
        Model model = new Model();
        jobs.forEach(job -> model.jobs.add(job.copy()));
        model.cpus.clear();
        model.cpus.addAll(cpus);
        model.holders.putAll(holders);
        for (int i = 0; i < 6; i++) {
            model.blocked.get(i).addAll(blocked.get(i));
            model.awaiting.get(i).addAll(awaiting.get(i));
        }
        model.signals = signals.clone();
        model.quotas = quotas.clone();
        model.used = used.clone();
        model.history.addAll(history);
        model.way = way;
        model.quantum = quantum;
        model.boost = boost;
        model.period = period;
        model.clock = clock;
        model.stands = stands;
        model.switches = switches;
        model.idle = idle;
        model.busy = busy;
        return model;
    }

    // ---- keys

    int key(Job job) {
        return way == 0 ? job.rank : way == 1 ? job.level : job.time;
    }

    int lentKey(Job job) {
        int least = Integer.MAX_VALUE;
        Set<Integer> seen = new HashSet<>();
        Deque<Integer> open = new ArrayDeque<>(List.of(job.number));
        while (!open.isEmpty()) {
            int next = open.pop();
            if (seen.add(next)) {
                least = Math.min(least, key(jobs.get(next)));
                holders.forEach((lock, holder) -> {
                    if (holder == next) {
                        open.addAll(blocked.get(lock));
                    }
                });
            }
        }
        return least;
    }

    private int leastTimeOfOthers(Job job, int otherwise) {
        return jobs.stream().filter(other -> other != job && (other.state == 1 || other.state == 2))
                .mapToInt(other -> other.time).min().orElse(otherwise);
    }

    // ---- states

    private void ready(Job job) {
        job.state = 1;
        job.stand = stands++;
    }

    private void wake(Job job) {
        if (way == 1) {
            job.level = Math.max(0, job.level - 1);
        } else if (way == 2) {
            job.time = Math.max(job.time, leastTimeOfOthers(job, job.time));
        }
        ready(job);
    }

    private void off(Job job) {
        cpus.replaceAll(number -> number == job.number ? -1 : number);
    }

    void start(Job job) {
        job.time = leastTimeOfOthers(job, 0);
        ready(job);
    }

    void end(Job job) {
        off(job);
        blocked.forEach(queue -> queue.remove(job.number));
        awaiting.forEach(queue -> queue.remove(job.number));
        job.state = 6;
        job.told[4] = clock;
        for (int lock = 0; lock < 6; lock++) {
            unlock(job, lock);
        }
    }

    private void unlock(Job job, int lock) {
        if (holders.getOrDefault(lock, -1) != job.number) {
            return;
        }
        holders.remove(lock);
        // The queue stands in the order of blocking, and min() takes the first of several.
        Job next = null;
        for (int number : blocked.get(lock)) {
            Job waiter = jobs.get(number);
            if (next == null || lentKey(waiter) < lentKey(next)) {
                next = waiter;
            }
        }
        if (next != null) {
            blocked.get(lock).remove(next.number);
            holders.put(lock, next.number);
            next.step++;
            wake(next);
        }
    }

    void signal(int event) {
        Integer first = awaiting.get(event).poll();
        if (first == null) {
            signals[event] = Math.min(99, signals[event] + 1);
        } else {
            jobs.get(first).step++;
            wake(jobs.get(first));
        }
    }

    void setProcessors(int processors) {
        for (Job job : jobs) {
            if (job.state == 2) {
                job.state = 1;
            }
        }
        cpus.clear();
        for (int i = 0; i < processors; i++) {
            cpus.add(-1);
        }
    }

    // ---- a tick

    void tick() {
        if (clock % period == 0) {
            used = new int[4];
        }
        if (way == 1 && boost != 0 && clock % boost == 0) {
            jobs.forEach(job -> job.level = 0);
        }
        for (Job job : jobs) {
            if (job.state == 3 && job.wakesAt == clock) {
                wake(job);
            }
        }
        endTurns();
        take();
        int[] ranHere = {-1, -1, -1};
        for (int cpu = 0; cpu < cpus.size(); cpu++) {
            if (cpus.get(cpu) != -1) {
                Job job = jobs.get(cpus.get(cpu));
                if (goOn(job)) {
                    ranHere[cpu] = job.number;
                }
            }
            if (ranHere[cpu] == -1) {
                idle++;
            } else {
                busy++;
            }
        }
        history.add(ranHere);
        for (Job job : jobs) {
            if (job.state == 1) {
                job.told[1]++;
            } else if (job.state == 4) {
                job.told[2]++;
            }
        }
        clock++;
    }

    private void endTurns() {
        for (int number : List.copyOf(cpus)) {
            if (number == -1 || way == 2) {
                continue;
            }
            Job job = jobs.get(number);
            int turn = way == 0 ? quantum : quantum * (int) Math.pow(2, job.level);
            if (job.had >= turn) {
                off(job);
                ready(job);
                if (way == 1) {
                    job.level = Math.min(3, job.level + 1);
                }
            }
        }
    }

    private void take() {
        List<Job> comers = new ArrayList<>();
        Map<Job, Integer> lent = new HashMap<>();
        for (Job job : jobs) {
            if (job.state == 1 || job.state == 2) {
                comers.add(job);
                lent.put(job, lentKey(job));
            }
        }
        comers.sort(Comparator.<Job>comparingInt(lent::get).thenComparingInt(job -> job.state == 2 ? 0 : 1)
                .thenComparingInt(job -> job.stand));
        List<Job> taken = new ArrayList<>();
        for (Job job : comers) {
            long ofGroup = used[job.group] + taken.stream().filter(other -> other.group == job.group).count();
            boolean usedUp = quotas[job.group] != 0 && ofGroup >= quotas[job.group];
            if (taken.size() < cpus.size() && !usedUp) {
                taken.add(job);
            }
        }
        for (Job job : comers) {
            if (job.state == 2 && !taken.contains(job)) {
                off(job);
                job.state = 1;
            }
        }
        for (Job job : taken) {
            if (job.state == 1) {
                cpus.set(cpus.indexOf(-1), job.number);
                job.state = 2;
                job.had = 0;
                switches++;
            }
        }
    }

    /** Whether it ran for this tick. */
    private boolean goOn(Job job) {
        while (job.state == 2) {
            int code = job.program.get(job.step)[0];
            int n = job.program.get(job.step)[1];
            if (code == 0) {
                run(job, n);
                return true;
            } else if (code == 1) {
                job.step++;
                off(job);
                job.state = 3;
                job.wakesAt = clock + n;
            } else if (code == 2) {
                int holder = holders.getOrDefault(n, -1);
                if (holder == -1 || holder == job.number) {
                    holders.put(n, job.number);
                    job.step++;
                } else {
                    off(job);
                    job.state = 4;
                    blocked.get(n).add(job.number);
                }
            } else if (code == 3) {
                unlock(job, n);
                job.step++;
            } else if (code == 4) {
                signal(n);
                job.step++;
            } else if (code == 5 && signals[n] > 0) {
                signals[n]--;
                job.step++;
            } else if (code == 5) {
                off(job);
                job.state = 5;
                awaiting.get(n).add(job.number);
            } else {
                job.step++;
                off(job);
                ready(job);
            }
        }
        return false;
    }

    private void run(Job job, int n) {
        used[job.group]++;
        if (job.told[0]++ == 0) {
            job.told[3] = clock;
        }
        if (way == 2) {
            job.time += 840 / (8 - job.rank);
        }
        job.had++;
        job.part++;
        if (job.part == n) {
            job.part = 0;
            job.step++;
        }
        if (job.step == job.program.size()) {
            job.step = 0;
            job.gone++;
            if (job.gone == job.rounds) {
                end(job);
            }
        }
    }

    // ---- asked

    int stepOf(Job job) {
        return job.state == 6 ? job.program.size() : job.step;
    }

    int ran(int processor, int back) {
        return back > clock ? -2 : history.get(clock - back)[processor];
    }

    static int set(Iterable<Integer> numbers) {
        int set = 0;
        for (int number : numbers) {
            set |= 1 << number;
        }
        return set;
    }

    int stuck() {
        Set<Integer> stuck = new HashSet<>();
        for (Job job : jobs) {
            Set<Integer> seen = new HashSet<>();
            int next = job.number;
            while (jobs.get(next).state == 4 && seen.add(next)) {
                next = holders.get(jobs.get(next).program.get(jobs.get(next).step)[1]);
            }
            if (jobs.get(next).state == 4) {
                stuck.add(job.number);
            }
        }
        return set(stuck);
    }

    double load() {
        return clock == 0 ? 0 : 1.0 * busy / (busy + idle);
    }

    int doneWith(int task, int rank, int ticks) {
        Model model = copy();
        model.jobs.get(task).rank = rank;
        return model.ticksTill(ticks, () -> model.jobs.get(task).state == 6);
    }

    int stuckIn(int ticks) {
        Model model = copy();
        return model.ticksTill(ticks, () -> model.stuck() != 0);
    }

    private int ticksTill(int ticks, java.util.function.BooleanSupplier so) {
        for (int passed = 0; passed <= ticks; passed++) {
            if (so.getAsBoolean()) {
                return passed;
            }
            tick();
        }
        return -1;
    }

    int idleIn(int ticks) {
        Model model = copy();
        for (int i = 0; i < ticks; i++) {
            model.tick();
        }
        return model.idle - idle;
    }

    long digest() {
        List<Integer> numbers = new ArrayList<>(List.of(clock, jobs.size(), cpus.size(), switches, idle, stuck()));
        for (Job job : jobs) {
            numbers.addAll(List.of(job.state, stepOf(job), job.gone, key(job), lentKey(job), job.stand, job.level));
            for (int told : job.told) {
                numbers.add(told);
            }
        }
        for (int cpu = 0; cpu < cpus.size(); cpu++) {
            numbers.add(cpus.get(cpu));
            for (int back = 1; back <= 5; back++) {
                numbers.add(ran(cpu, back));
            }
        }
        for (int group = 0; group < 4; group++) {
            numbers.add(used[group]);
        }
        for (int lock = 0; lock < 6; lock++) {
            numbers.add(holders.getOrDefault(lock, -1));
            numbers.add(set(blocked.get(lock)));
        }
        for (int event = 0; event < 6; event++) {
            numbers.add(signals[event]);
            numbers.add(set(awaiting.get(event)));
        }
        return numbers.stream().mapToLong(x -> x).reduce(58049, (d, x) -> d * 31 + x);
    }
}
