import java.util.Map;
import java.util.Random;
import java.util.TreeMap;
import java.util.function.DoubleSupplier;
import java.util.function.LongSupplier;

/**
 * Long runs of chosen calls, each answered by BeadleKernel as by the Model, with the digest compared behind each.
 * The seeds are fixed, so that each run of the test makes the same calls.
 */
public final class ModelTest {

    private static final int RUNS = 4000;
    private static final int CALLS = 512;

    private final Checks checks = new Checks("ModelTest");
    // How often a call was answered or refused, so that a run that reaches nothing shows.
    private final Map<String, Integer> reached = new TreeMap<>();
    private Random chance = new Random(0);
    private BeadleKernel kernel = new BeadleKernel();
    private Model model = new Model();
    private String last = "";

    public static void main(String[] args) {
        ModelTest test = new ModelTest();
        for (int run = 0; run < RUNS; run++) {
            test.run(run);
        }
        test.reachedAll();
        test.checks.close();
    }

    private void run(int seed) {
        chance = new Random(seed);
        kernel = new BeadleKernel();
        model = new Model();
        int tasks = 2 + chance.nextInt(14);
        int longest = chance.nextInt(4) == 0 ? 40 : 1 + chance.nextInt(6);
        boolean tight = chance.nextBoolean();
        // Most runs are short: sooner or later all tasks are done, or wait for ever.
        int most = chance.nextInt(8) == 0 ? CALLS : CALLS / 3 + chance.nextInt(CALLS / 6);
        int calls = 0;
        for (int i = 0; i < tasks && calls < CALLS / 4; i++) {
            calls += addWhole(tight);
        }
        for (; calls < most; calls++) {
            call(longest, tight);
            checks.same("run " + seed + ", behind " + last + ": digest", kernel.digest(), model.digest());
        }
    }

    /** A task with a program, mostly started. */
    private int addWhole(boolean tight) {
        addTask(between(0, 7), between(0, 3), between(1, 5));
        int task = model.jobs.size() - 1;
        int steps = between(1, tight ? 12 : 6);
        for (int i = 1; i < steps; i++) {
            addSomeStep(task, tight);
        }
        addStep(task, 0, between(1, tight ? 3 : 20));
        if (chance.nextInt(8) > 0) {
            start(task);
        }
        return steps + 3;
    }

    private void addSomeStep(int task, boolean tight) {
        int code = tight ? new int[] {0, 0, 1, 2, 2, 2, 3, 4, 4, 5, 6}[chance.nextInt(11)] : between(0, 6);
        int most = code == 0 ? (tight ? 3 : 20) : code == 1 ? (tight ? 4 : 40) : tight ? 2 : 5;
        addStep(task, code, code < 2 ? between(1, most) : between(0, most));
    }

    private void call(int longest, boolean tight) {
        int task = someTask();
        switch (chance.nextInt(tight ? 30 : 60)) {
            case 0:
                setProcessors(mostly(1, 3));
                break;
            case 1:
                setWay(mostly(0, 2), mostly(1, chance.nextBoolean() ? 3 : 10), mostly(0, 50));
                break;
            case 2:
                setQuota(mostly(0, 3), chance.nextInt(3) == 0 ? 0 : mostly(0, 50) % 9);
                break;
            case 3:
                setPeriod(mostly(1, 50));
                break;
            case 4:
                addTask(mostly(0, 7), mostly(0, 3), mostly(1, 5));
                break;
            case 5:
                addStep(task, mostly(0, 6), mostly(0, 20));
                break;
            case 6:
                addStep(task, mostly(0, 1), mostly(1, 40));
                break;
            case 7:
                start(task);
                break;
            case 8:
                setRank(task, mostly(0, 7));
                break;
            case 9:
                if (chance.nextInt(4) == 0) {
                    end(task);
                }
                break;
            case 10:
            case 11:
                signal(mostly(0, 5));
                break;
            case 12:
                askTask(task);
                break;
            case 13:
                askOthers();
                break;
            case 14:
                doneIn(task, mostly(1, 60));
                break;
            case 15:
                doneWith(task, mostly(0, 7), mostly(1, 60));
                break;
            case 16:
                idleIn(mostly(1, 60));
                break;
            case 17:
            case 18:
                stuckIn(mostly(1, 60));
                break;
            case 19:
                tick(mostly(1, 40));
                break;
            default:
                tick(between(1, longest));
                break;
        }
    }

    // ---- numbers by chance

    private int between(int least, int most) {
        return least + chance.nextInt(most - least + 1);
    }

    /** In the range, but now and then beside it. */
    private int mostly(int least, int most) {
        switch (chance.nextInt(60)) {
            case 0:
                return least - 1;
            case 1:
                return most + 1;
            case 2:
                return chance.nextInt();
            default:
                return between(least, most);
        }
    }

    private int someTask() {
        return mostly(0, Math.max(0, model.jobs.size() - 1));
    }

    private static boolean in(int number, int least, int most) {
        return number >= least && number <= most;
    }

    private boolean isTask(int task) {
        return in(task, 0, model.jobs.size() - 1);
    }

    // ---- comparing

    private static String refusal(boolean index, boolean argument, boolean state) {
        return index ? "IndexOutOfBoundsException" : argument ? "IllegalArgumentException"
                : state ? "IllegalStateException" : "";
    }

    private void same(String call, String refusal, LongSupplier got, LongSupplier want) {
        sameText(call, refusal, () -> String.valueOf(got.getAsLong()), () -> String.valueOf(want.getAsLong()));
    }

    private void sameDouble(String call, DoubleSupplier got, DoubleSupplier want) {
        sameText(call, "", () -> String.valueOf(got.getAsDouble()), () -> String.valueOf(want.getAsDouble()));
    }

    private void sameText(String call, String refusal, java.util.function.Supplier<String> got,
            java.util.function.Supplier<String> want) {
        last = call;
        String answer;
        try {
            answer = got.get();
        } catch (RuntimeException e) {
            answer = e.getClass().getSimpleName();
        }
        String due = refusal.isEmpty() ? want.get() : refusal;
        checks.same(call, answer, due);
        String name = call.substring(0, call.indexOf('('));
        reached.merge(name + " " + (refusal.isEmpty() ? "answers" : refusal), 1, Integer::sum);
    }

    private void reachedAll() {
        String[] calls = {"setProcessors A", "setWay A", "setQuota IA", "setPeriod A", "addTask AS", "addStep IAS",
            "start IS", "setRank IA", "end IS", "signal I", "tick A", "stateOf I", "stepOf I", "roundsOf I", "keyOf I",
            "lentKey I", "standOf I", "levelOf I", "told IA", "on I", "ran IA", "used I", "holder I", "blocked I",
            "number I", "awaiting I", "doneIn IA", "doneWith IA", "idleIn A", "stuckIn A", "load ", "stuck "};
        for (String call : calls) {
            String name = call.substring(0, call.indexOf(' '));
            checks.isTrue(name + " was never answered", reached.containsKey(name + " answers"));
            for (char kind : call.substring(call.indexOf(' ') + 1).toCharArray()) {
                String refusal = refusal(kind == 'I', kind == 'A', kind == 'S');
                checks.isTrue(name + " never threw " + refusal, reached.containsKey(name + " " + refusal));
            }
        }
        for (String met : new String[] {"stuck", "asleep", "blocked", "awaiting", "done", "forecast stuck",
            "forecast done", "level 3", "two blocked", "lent"}) {
            checks.isTrue(met + " was met too seldom", reached.getOrDefault("met " + met, 0) > 100);
        }
    }

    private void met(String what, boolean so) {
        if (so) {
            reached.merge("met " + what, 1, Integer::sum);
        }
    }

    // ---- the calls

    private void setProcessors(int n) {
        String refusal = refusal(false, !in(n, 1, 3), false);
        same("setProcessors(" + n + ")", refusal, () -> kernel.setProcessors(n), () -> {
            int before = model.cpus.size();
            model.setProcessors(n);
            return before;
        });
    }

    private void setWay(int way, int quantum, int boost) {
        String refusal = refusal(false, !in(way, 0, 2) || !in(quantum, 1, 10) || !in(boost, 0, 50), false);
        String call = "setWay(" + way + ", " + quantum + ", " + boost + ")";
        same(call, refusal, () -> kernel.setWay(way, quantum, boost), () -> {
            int before = model.way;
            model.way = way;
            model.quantum = quantum;
            model.boost = boost;
            return before;
        });
    }

    private void setQuota(int group, int quota) {
        String refusal = refusal(!in(group, 0, 3), !in(quota, 0, 50), false);
        same("setQuota(" + group + ", " + quota + ")", refusal, () -> kernel.setQuota(group, quota), () -> {
            int before = model.quotas[group];
            model.quotas[group] = quota;
            return before;
        });
    }

    private void setPeriod(int period) {
        String refusal = refusal(false, !in(period, 1, 50), false);
        same("setPeriod(" + period + ")", refusal, () -> kernel.setPeriod(period), () -> {
            int before = model.period;
            model.period = period;
            return before;
        });
    }

    private void addTask(int rank, int group, int rounds) {
        boolean argument = !in(rank, 0, 7) || !in(group, 0, 3) || !in(rounds, 1, 5);
        String refusal = refusal(false, argument, model.jobs.size() == 16);
        String call = "addTask(" + rank + ", " + group + ", " + rounds + ")";
        same(call, refusal, () -> kernel.addTask(rank, group, rounds), () -> {
            Model.Job job = new Model.Job();
            job.number = model.jobs.size();
            job.rank = rank;
            job.group = group;
            job.rounds = rounds;
            model.jobs.add(job);
            return job.number;
        });
    }

    private void addStep(int task, int code, int n) {
        int least = code < 2 ? 1 : 0;
        int most = code == 0 ? 20 : code == 1 ? 40 : 5;
        boolean argument = !in(code, 0, 6) || code < 6 && !in(n, least, most);
        boolean state = isTask(task) && (model.jobs.get(task).state != 0 || model.jobs.get(task).program.size() == 16);
        String call = "addStep(" + task + ", " + code + ", " + n + ")";
        same(call, refusal(!isTask(task), argument, state), () -> kernel.addStep(task, code, n), () -> {
            model.jobs.get(task).program.add(new int[] {code, n});
            return model.jobs.get(task).program.size();
        });
    }

    private void start(int task) {
        boolean state = false;
        if (isTask(task)) {
            Model.Job job = model.jobs.get(task);
            int steps = job.program.size();
            state = job.state != 0 || steps == 0 || job.program.get(steps - 1)[0] != 0;
        }
        same("start(" + task + ")", refusal(!isTask(task), false, state), () -> kernel.start(task), () -> {
            model.start(model.jobs.get(task));
            return model.jobs.get(task).stand;
        });
    }

    private void setRank(int task, int rank) {
        String refusal = refusal(!isTask(task), !in(rank, 0, 7), false);
        same("setRank(" + task + ", " + rank + ")", refusal, () -> kernel.setRank(task, rank), () -> {
            int before = model.jobs.get(task).rank;
            model.jobs.get(task).rank = rank;
            return before;
        });
    }

    private void end(int task) {
        boolean state = isTask(task) && model.jobs.get(task).state == 6;
        same("end(" + task + ")", refusal(!isTask(task), false, state), () -> kernel.end(task), () -> {
            int before = model.jobs.get(task).state;
            model.end(model.jobs.get(task));
            return before;
        });
    }

    private void signal(int event) {
        same("signal(" + event + ")", refusal(!in(event, 0, 5), false, false), () -> kernel.signal(event), () -> {
            model.signal(event);
            return model.signals[event];
        });
    }

    private void tick(int ticks) {
        same("tick(" + ticks + ")", refusal(false, !in(ticks, 1, 40), false), () -> kernel.tick(ticks), () -> {
            for (int i = 0; i < ticks; i++) {
                model.tick();
            }
            return model.clock;
        });
        met("stuck", model.stuck() != 0);
        for (Model.Job job : model.jobs) {
            met("asleep", job.state == 3);
            met("blocked", job.state == 4);
            met("awaiting", job.state == 5);
            met("done", job.state == 6);
            met("level 3", job.level == 3);
            met("lent", model.lentKey(job) < model.key(job));
        }
        model.blocked.forEach(queue -> met("two blocked", queue.size() > 1));
    }

    private void askTask(int task) {
        String refusal = refusal(!isTask(task), false, false);
        Model.Job job = isTask(task) ? model.jobs.get(task) : new Model.Job();
        same("stateOf(" + task + ")", refusal, () -> kernel.stateOf(task), () -> job.state);
        same("stepOf(" + task + ")", refusal, () -> kernel.stepOf(task), () -> model.stepOf(job));
        same("roundsOf(" + task + ")", refusal, () -> kernel.roundsOf(task), () -> job.gone);
        same("keyOf(" + task + ")", refusal, () -> kernel.keyOf(task), () -> model.key(job));
        same("lentKey(" + task + ")", refusal, () -> kernel.lentKey(task), () -> model.lentKey(job));
        same("standOf(" + task + ")", refusal, () -> kernel.standOf(task), () -> job.stand);
        same("levelOf(" + task + ")", refusal, () -> kernel.levelOf(task), () -> job.level);
        int what = mostly(0, 4);
        same("told(" + task + ", " + what + ")", refusal(!isTask(task), !in(what, 0, 4), false),
                () -> kernel.told(task, what), () -> job.told[what]);
    }

    private void askOthers() {
        int processor = mostly(0, model.cpus.size() - 1);
        boolean none = !in(processor, 0, model.cpus.size() - 1);
        int back = mostly(1, 30);
        same("on(" + processor + ")", refusal(none, false, false), () -> kernel.on(processor),
                () -> model.cpus.get(processor));
        same("ran(" + processor + ", " + back + ")", refusal(none, !in(back, 1, 30), false),
                () -> kernel.ran(processor, back), () -> model.ran(processor, back));
        int group = mostly(0, 3);
        same("used(" + group + ")", refusal(!in(group, 0, 3), false, false), () -> kernel.used(group),
                () -> model.used[group]);
        int place = mostly(0, 5);
        String refusal = refusal(!in(place, 0, 5), false, false);
        same("holder(" + place + ")", refusal, () -> kernel.holder(place),
                () -> model.holders.getOrDefault(place, -1));
        same("blocked(" + place + ")", refusal, () -> kernel.blocked(place),
                () -> Model.set(model.blocked.get(place)));
        same("number(" + place + ")", refusal, () -> kernel.number(place), () -> model.signals[place]);
        same("awaiting(" + place + ")", refusal, () -> kernel.awaiting(place),
                () -> Model.set(model.awaiting.get(place)));
        same("stuck()", "", kernel::stuck, model::stuck);
        sameDouble("load()", kernel::load, model::load);
    }

    private void doneIn(int task, int ticks) {
        String refusal = refusal(!isTask(task), !in(ticks, 1, 60), false);
        same("doneIn(" + task + ", " + ticks + ")", refusal, () -> kernel.doneIn(task, ticks),
                () -> model.doneWith(task, model.jobs.get(task).rank, ticks));
        met("forecast done", refusal.isEmpty() && model.doneWith(task, model.jobs.get(task).rank, ticks) > 0);
    }

    private void doneWith(int task, int rank, int ticks) {
        String refusal = refusal(!isTask(task), !in(rank, 0, 7) || !in(ticks, 1, 60), false);
        same("doneWith(" + task + ", " + rank + ", " + ticks + ")", refusal,
                () -> kernel.doneWith(task, rank, ticks), () -> model.doneWith(task, rank, ticks));
    }

    private void idleIn(int ticks) {
        same("idleIn(" + ticks + ")", refusal(false, !in(ticks, 1, 60), false), () -> kernel.idleIn(ticks),
                () -> model.idleIn(ticks));
    }

    private void stuckIn(int ticks) {
        String refusal = refusal(false, !in(ticks, 1, 60), false);
        same("stuckIn(" + ticks + ")", refusal, () -> kernel.stuckIn(ticks), () -> model.stuckIn(ticks));
        met("forecast stuck", refusal.isEmpty() && model.stuckIn(ticks) > 0);
    }
}
