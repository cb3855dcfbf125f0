import java.math.BigInteger;
import java.util.function.Consumer;
import java.util.function.Supplier;

/** Boundaries of the promises 35 to 39: what would be, and the digest. */
public final class ForeseenBoundaryTest extends BoundaryTests {

    private static final int ALL = 7;

    public static void main(String[] args) {
        new ForeseenBoundaryTest().runAll();
    }

    /** The only task runs for so many ticks, 60 at most. */
    private static BeadleKernel running(int ticks) {
        BeadleKernel k = Scene.kernel(1);
        k.addTask(4, 0, 1);
        for (int left = ticks; left > 0; left -= 20) {
            k.addStep(0, Scene.RUN, Math.min(left, 20));
        }
        k.start(0);
        return k;
    }

    /** A call that only asks must leave all that is answered later as it is. */
    private void changesNothing(Supplier<BeadleKernel> scene, Consumer<BeadleKernel> call) {
        BeadleKernel k = scene.get();
        call.accept(k);
        checks.isTrue("something was changed", Scene.future(k).equals(Scene.future(scene.get())));
    }

    // ---- 35 doneIn

    @Says("Throws `IndexOutOfBoundsException` if there is no such TASK")
    void promise35_refusesNoSuchTask() {
        for (int wrong : new int[] {-1, ALL, ALL + 1, 15, 16, LEAST, MOST}) {
            refused("task " + wrong, INDEX, k -> k.doneIn(wrong, 1));
        }
        refused("without tasks", BeadleKernel::new, INDEX, k -> k.doneIn(0, 60));
        refused("of 16", () -> Scene.fresh(16), INDEX, k -> k.doneIn(16, 60));
        same("the last of 16", Scene.fresh(16).doneIn(15, 60), -1);
    }

    @Says("Throws `IllegalArgumentException` if ticks is not 1 to 60")
    void promise35_refusesTicksBeside1To60() {
        for (int wrong : beside(1, 60)) {
            for (int task = 0; task < ALL; task++) {
                int asked = task;
                refused("ticks " + wrong + " of " + task, ARGUMENT, k -> k.doneIn(asked, wrong));
            }
        }
    }

    @Says("If several exceptions apply, the one that is named first is thrown.")
    void promise35_namesTheIndexFirst() {
        for (int wrong : beside(1, 60)) {
            refused("ticks " + wrong, INDEX, k -> k.doneIn(ALL, wrong));
            refused("ticks " + wrong, INDEX, k -> k.doneIn(-1, wrong));
        }
    }

    @Says({"how many ticks at most", "Returns behind how many ticks it would be DONE"})
    void promise35_from1To60() {
        for (int ticks = 1; ticks <= 60; ticks++) {
            BeadleKernel k = running(ticks);
            same("just as many", k.doneIn(0, ticks), ticks);
            same("of 60", k.doneIn(0, 60), ticks);
            if (ticks > 1) {
                same("one less", k.doneIn(0, ticks - 1), -1);
            }
        }
    }

    @Says("Returns behind how many ticks it would be DONE (0, if it is)")
    void promise35_is0IfItIsDone() {
        BeadleKernel k = Scene.busy(0);
        same("done in a tick", k.doneIn(4, 1) + k.doneIn(4, 60), 0);
        for (int task = 0; task < ALL; task++) {
            if (task != 4) {
                k.end(task);
            }
            same("ended", k.doneIn(task, 1) + k.doneIn(task, 60), 0);
        }
    }

    @Says("-1 if not within so many")
    void promise35_isNotWithinSoMany() {
        same("a new one", Scene.busy(0).doneIn(6, 60), -1);
        same("one that awaits", Scene.busy(0).doneIn(2, 60), -1);
        same("not within 1", Scene.busy(0).doneIn(0, 1), -1);
        BeadleKernel k = running(60);
        k.addTask(0, 0, 1);
        same("not within 59", k.doneIn(0, 59), -1);
        same("within 60", k.doneIn(0, 60), 60);
    }

    @Says("Ahead of the calls `doneIn`, `doneWith`, `idleIn`, `stuckIn`, `digest` the interface says: ---- what would be (nothing is changed).")
    void promise35_changesNothing() {
        for (int way = 0; way <= 2; way++) {
            int itsWay = way;
            changesNothing(() -> Scene.busy(itsWay), k -> k.doneIn(0, 60));
            changesNothing(() -> Scene.busy(itsWay), k -> k.doneIn(4, 1));
        }
    }

    /** The busy scene, and one that takes what number there is. */
    private static BeadleKernel busier(int way) {
        BeadleKernel k = Scene.busy(way);
        Scene.started(k, 3, Scene.AWAIT, 4, Scene.RUN, 1, Scene.AWAIT, 4, Scene.SLEEP, 3, Scene.RUN, 8);
        Scene.started(k, 2, Scene.RUN, 4, Scene.SIGNAL, 2, Scene.RUN, 2);
        k.tick(1);
        return k;
    }

    /** One awaits and one is blocked already; those that come to it later have the lesser numbers. */
    private static BeadleKernel lines() {
        BeadleKernel k = Scene.kernel(2);
        Scene.task(k, 4, 0, 1, Scene.AWAIT, 1, Scene.RUN, 3);
        Scene.task(k, 4, 0, 1, Scene.LOCK, 0, Scene.RUN, 3);
        Scene.started(k, 4, Scene.AWAIT, 1, Scene.RUN, 3);
        Scene.started(k, 1, Scene.LOCK, 0, Scene.RUN, 9);
        k.tick(1);
        Scene.started(k, 4, Scene.LOCK, 0, Scene.RUN, 3);
        k.tick(1);
        k.start(0);
        k.start(1);
        Scene.started(k, 5, Scene.RUN, 5, Scene.SIGNAL, 1, Scene.RUN, 5, Scene.SIGNAL, 1, Scene.RUN, 1);
        return k;
    }

    private void comesAsForeseen(Supplier<BeadleKernel> scene) {
        BeadleKernel come = scene.get();
        int clock = come.clock();
        int idle = come.idle();
        int[] idles = new int[61];
        int stuckBehind = come.stuck() != 0 ? 0 : -1;
        for (int ticks = 1; ticks <= 60; ticks++) {
            come.tick(1);
            idles[ticks] = come.idle() - idle;
            stuckBehind = stuckBehind == -1 && come.stuck() != 0 ? ticks : stuckBehind;
        }
        for (int task = 0; task < come.tasks(); task++) {
            int tick = come.told(task, 4);
            int due = tick == -1 ? -1 : Math.max(0, tick - clock + 1);
            same("doneIn of " + task, scene.get().doneIn(task, 60), due);
        }
        for (int ticks = 1; ticks <= 60; ticks++) {
            same("idleIn(" + ticks + ")", scene.get().idleIn(ticks), idles[ticks]);
        }
        same("stuckIn", scene.get().stuckIn(60), stuckBehind);
    }

    @Says("Returns behind how many ticks it would be DONE")
    void promise35_comesAsForeseen() {
        for (int way = 0; way <= 2; way++) {
            int itsWay = way;
            comesAsForeseen(() -> Scene.busy(itsWay));
            comesAsForeseen(() -> busier(itsWay));
        }
        same("states", Scene.states(lines()), "115241");
        comesAsForeseen(ForeseenBoundaryTest::lines);
        comesAsForeseen(() -> running(60));
        comesAsForeseen(() -> stuckBehind(9));
    }

    @Says("Returns behind how many ticks it would be DONE")
    void promise35_foreseesByStands() {
        BeadleKernel order = Scene.kernel(1);
        Scene.task(order, 3, 0, 1, Scene.RUN, 2);
        Scene.started(order, 3, Scene.RUN, 5);
        order.start(0);
        same("the smaller stand", order.doneIn(1, 60) * 10 + order.doneIn(0, 60), 57);
        BeadleKernel next = Scene.kernel(1);
        Scene.started(next, 3, Scene.SLEEP, 3, Scene.RUN, 3);
        Scene.started(next, 3, Scene.RUN, 4);
        Scene.started(next, 3, Scene.RUN, 4);
        next.tick(2);
        // The one that wakes gets a stand behind the other's: ticks 1 to 4, 5 to 8, and then 9 to 11.
        same("the next stand", next.doneIn(2, 60) * 100 + next.doneIn(0, 60), 710);
    }

    @Says("Returns behind how many ticks it would be DONE")
    void promise35_foreseesByLevels() {
        BeadleKernel k = new BeadleKernel();
        k.setWay(1, 1, 0);
        Scene.started(k, 0, Scene.RUN, 9);
        k.tick(7);
        k.setWay(1, 10, 0);
        Scene.started(k, 0, Scene.RUN, 5);
        same("levels", k.levelOf(0) * 10 + k.levelOf(1), 20);
        same("the less one first", k.doneIn(1, 60) * 10 + k.doneIn(0, 60), 57);
        k.setWay(1, 10, 8);
        k.tick(1);
        // All are 0 from the tick 8 on, and the one that is running then is the second.
        same("with a boost", k.doneIn(1, 60) * 10 + k.doneIn(0, 60), 46);
        BeadleKernel boost = new BeadleKernel();
        boost.setWay(1, 1, 0);
        Scene.started(boost, 0, Scene.RUN, 9);
        boost.tick(7);
        boost.setProcessors(1);
        boost.setWay(1, 10, 7);
        Scene.started(boost, 0, Scene.RUN, 5);
        same("at once a boost, by which the smaller stand goes first", boost.doneIn(0, 60), 2);
    }

    @Says("Returns behind how many ticks it would be DONE")
    void promise35_foreseesTheRestOfATurn() {
        BeadleKernel k = new BeadleKernel();
        Scene.started(k, 3, Scene.RUN, 3, Scene.RUN, 2);
        Scene.started(k, 3, Scene.RUN, 2);
        k.tick(2);
        // One tick is left of its turn of 3; the other has two, and then comes the rest.
        same("the other", k.doneIn(1, 60), 3);
        same("itself", k.doneIn(0, 60), 5);
    }

    @Says("Returns behind how many ticks it would be DONE")
    void promise35_foreseesWhoCameFirst() {
        BeadleKernel k = Scene.kernel(1);
        Scene.task(k, 3, 0, 1, Scene.AWAIT, 0, Scene.RUN, 1);
        Scene.started(k, 3, Scene.AWAIT, 0, Scene.RUN, 1);
        k.tick(1);
        k.start(0);
        k.tick(1);
        Scene.started(k, 3, Scene.RUN, 1, Scene.SIGNAL, 0, Scene.RUN, 1);
        same("the one that came first", k.doneIn(1, 60), 3);
        same("the other never", k.doneIn(0, 60), -1);
    }

    // ---- 36 doneWith

    @Says("Throws `IndexOutOfBoundsException` if there is no such TASK")
    void promise36_refusesNoSuchTask() {
        for (int wrong : new int[] {-1, ALL, ALL + 1, 15, 16, LEAST, MOST}) {
            refused("task " + wrong, INDEX, k -> k.doneWith(wrong, 0, 1));
        }
        refused("without tasks", BeadleKernel::new, INDEX, k -> k.doneWith(0, 7, 60));
        refused("of 16", () -> Scene.fresh(16), INDEX, k -> k.doneWith(16, 7, 60));
        same("the last of 16", Scene.fresh(16).doneWith(15, 7, 60), -1);
    }

    @Says("Throws `IllegalArgumentException` if rank is not 0 to 7")
    void promise36_refusesRanksBeside0To7() {
        for (int wrong : beside(0, 7)) {
            for (int task = 0; task < ALL; task++) {
                int asked = task;
                refused("rank " + wrong + " of " + task, ARGUMENT, k -> k.doneWith(asked, wrong, 60));
            }
        }
    }

    @Says("or ticks is not 1 to 60")
    void promise36_refusesTicksBeside1To60() {
        for (int wrong : beside(1, 60)) {
            for (int task = 0; task < ALL; task++) {
                int asked = task;
                refused("ticks " + wrong + " of " + task, ARGUMENT, k -> k.doneWith(asked, 3, wrong));
            }
        }
    }

    @Says("If several exceptions apply, the one that is named first is thrown.")
    void promise36_namesTheIndexFirst() {
        for (int wrong : new int[] {-1, ALL, LEAST, MOST}) {
            refused("rank 8 of " + wrong, INDEX, k -> k.doneWith(wrong, 8, 1));
            refused("ticks 61 of " + wrong, INDEX, k -> k.doneWith(wrong, 0, 61));
            refused("both of " + wrong, INDEX, k -> k.doneWith(wrong, -1, 0));
        }
    }

    @Says("Returns what doneIn() would tell, if it had this RANK.")
    void promise36_ranks0To7() {
        BeadleKernel k = Scene.kernel(1);
        Scene.started(k, 7, Scene.RUN, 2);
        for (int rank = 0; rank < 7; rank++) {
            Scene.started(k, rank, Scene.RUN, 2);
        }
        // Of each rank but 7 another one is there, which has the greater stand.
        for (int rank = 0; rank <= 7; rank++) {
            same("with the rank " + rank, k.doneWith(0, rank, 60), 2 + 2 * rank);
            same("just as many", k.doneWith(0, rank, 2 + 2 * rank), 2 + 2 * rank);
            same("one less", k.doneWith(0, rank, 1 + 2 * rank), -1);
        }
        same("its own", k.doneWith(0, 7, 60), k.doneIn(0, 60));
        same("the rank stays", k.setRank(0, 7), 7);
    }

    @Says({"how many ticks at most", "Returns what doneIn() would tell, if it had this RANK."})
    void promise36_edgesOfDoneIn() {
        for (int rank = 0; rank <= 7; rank += 7) {
            BeadleKernel k = Scene.busy(0);
            same("it is", k.doneWith(4, rank, 1), 0);
            same("never", k.doneWith(6, rank, 60), -1);
            same("60", running(60).doneWith(0, rank, 60), 60);
            same("59", running(60).doneWith(0, rank, 59), -1);
            same("1", running(1).doneWith(0, rank, 1), 1);
        }
    }

    @Says("Returns what doneIn() would tell, if it had this RANK.")
    void promise36_comesAsForeseen() {
        for (int way = 0; way <= 2; way++) {
            for (int task = 0; task < busier(way).tasks(); task++) {
                for (int rank = 0; rank <= 7; rank++) {
                    BeadleKernel k = busier(way);
                    k.setRank(task, rank);
                    same("with the rank " + rank, busier(way).doneWith(task, rank, 60), k.doneIn(task, 60));
                }
            }
        }
    }

    @Says("what would be (nothing is changed)")
    void promise36_changesNothing() {
        for (int way = 0; way <= 2; way++) {
            int itsWay = way;
            changesNothing(() -> Scene.busy(itsWay), k -> k.doneWith(0, 7, 60));
            changesNothing(() -> Scene.busy(itsWay), k -> k.doneWith(1, 0, 1));
        }
    }

    // ---- 37 idleIn

    @Says("Throws `IllegalArgumentException` if ticks is not 1 to 60")
    void promise37_refusesTicksBeside1To60() {
        for (int wrong : beside(1, 60)) {
            refused("ticks " + wrong, ARGUMENT, k -> k.idleIn(wrong));
            refused("ticks " + wrong + " without tasks", BeadleKernel::new, ARGUMENT, k -> k.idleIn(wrong));
        }
    }

    @Says("Returns how many processors would be IDLE, all ticks together.")
    void promise37_fromNoneToAll() {
        for (int processors = 1; processors <= 3; processors++) {
            BeadleKernel k = Scene.kernel(processors);
            same("all in 1", k.idleIn(1), processors);
            same("all in 60", k.idleIn(60), 60 * processors);
            for (int task = 0; task < 3; task++) {
                k.start(Scene.task(k, 0, 0, 3, Scene.RUN, 20));
            }
            same("none in 1", k.idleIn(1), 0);
            same("none in 60", k.idleIn(60), 0);
            k.tick(1);
            same("those that were are not told", k.idleIn(59), 0);
        }
        BeadleKernel k = running(59);
        same("the last of 60", k.idleIn(60), 1);
        same("not within 59", k.idleIn(59), 0);
        k.tick(40);
        k.tick(40);
        same("not those that were", k.idle() * 10 + k.idleIn(1), 211);
    }

    @Says("what would be (nothing is changed)")
    void promise37_changesNothing() {
        for (int way = 0; way <= 2; way++) {
            int itsWay = way;
            changesNothing(() -> Scene.busy(itsWay), k -> k.idleIn(60));
        }
    }

    // ---- 38 stuckIn

    @Says("Throws `IllegalArgumentException` if ticks is not 1 to 60")
    void promise38_refusesTicksBeside1To60() {
        for (int wrong : beside(1, 60)) {
            refused("ticks " + wrong, ARGUMENT, k -> k.stuckIn(wrong));
            refused("ticks " + wrong + " without tasks", BeadleKernel::new, ARGUMENT, k -> k.stuckIn(wrong));
        }
    }

    /** Two tasks that get stuck behind so many ticks, 2 to 60. */
    private static BeadleKernel stuckBehind(int ticks) {
        BeadleKernel k = Scene.kernel(2);
        for (int task = 0; task < 2; task++) {
            k.addTask(0, 0, 1);
            k.addStep(task, Scene.LOCK, task);
            for (int left = ticks - 1; left > 0; left -= 20) {
                k.addStep(task, Scene.RUN, Math.min(left, 20));
            }
            k.addStep(task, Scene.LOCK, 1 - task);
            k.addStep(task, Scene.RUN, 1);
            k.start(task);
        }
        return k;
    }

    @Says({"how many ticks at most", "Returns behind how many ticks any TASK would be STUCK"})
    void promise38_from1To60() {
        for (int ticks = 2; ticks <= 60; ticks++) {
            BeadleKernel k = stuckBehind(ticks);
            same("just as many", k.stuckIn(ticks), ticks);
            same("of 60", k.stuckIn(60), ticks);
            same("one less", k.stuckIn(ticks - 1), -1);
            k.tick(1);
            same("behind one tick", k.stuckIn(60), ticks - 1);
        }
    }

    @Says("Returns behind how many ticks any TASK would be STUCK (0, if one is)")
    void promise38_is0IfOneIs() {
        BeadleKernel k = stuckBehind(2);
        k.tick(1);
        same("the next tick", k.stuckIn(1), 1);
        k.tick(1);
        same("one is", k.stuckIn(1), 0);
        same("one is", k.stuckIn(60), 0);
    }

    @Says("-1 if none would be within so many")
    void promise38_isNotWithinSoMany() {
        same("without tasks", new BeadleKernel().stuckIn(60), -1);
        same("one is blocked", Scene.busy(0).stuckIn(1), -1);
        same("not within 59", stuckBehind(60).stuckIn(59), -1);
        BeadleKernel k = stuckBehind(60);
        k.setProcessors(1);
        same("one after the other, neither within 60", k.stuckIn(60), -1);
    }

    @Says("what would be (nothing is changed)")
    void promise38_changesNothing() {
        for (int way = 0; way <= 2; way++) {
            int itsWay = way;
            changesNothing(() -> Scene.busy(itsWay), k -> k.stuckIn(60));
        }
        changesNothing(() -> stuckBehind(9), k -> k.stuckIn(60));
    }

    // ---- 39 digest

    private static final class Sum {
        private BigInteger d = BigInteger.valueOf(58049);

        void add(long... numbers) {
            for (long x : numbers) {
                d = d.multiply(BigInteger.valueOf(31)).add(BigInteger.valueOf(x));
            }
        }
    }

    /** The number d without any end, as the document tells it. */
    private static BigInteger sumOf(BeadleKernel k) {
        Sum sum = new Sum();
        sum.add(k.clock(), k.tasks(), k.processors(), k.switches(), k.idle(), k.stuck());
        for (int t = 0; t < k.tasks(); t++) {
            sum.add(k.stateOf(t), k.stepOf(t), k.roundsOf(t), k.keyOf(t), k.lentKey(t), k.standOf(t), k.levelOf(t));
            sum.add(k.told(t, 0), k.told(t, 1), k.told(t, 2), k.told(t, 3), k.told(t, 4));
        }
        for (int p = 0; p < k.processors(); p++) {
            sum.add(k.on(p), k.ran(p, 1), k.ran(p, 2), k.ran(p, 3), k.ran(p, 4), k.ran(p, 5));
        }
        for (int group = 0; group < 4; group++) {
            sum.add(k.used(group));
        }
        for (int lock = 0; lock < 6; lock++) {
            sum.add(k.holder(lock), k.blocked(lock));
        }
        for (int event = 0; event < 6; event++) {
            sum.add(k.number(event), k.awaiting(event));
        }
        return sum.d;
    }

    private void digests(String what, BeadleKernel k) {
        BigInteger sum = sumOf(k);
        checks.isTrue(what + ": it does not wrap around", sum.bitLength() > 64);
        same(what, k.digest(), sum.longValue());
        same(what + ", again", k.digest(), sum.longValue());
    }

    @Says("d becomes d * 31 + x, which wraps around as a 64-bit integer")
    void promise39_wrapsAround() {
        digests("a new one", new BeadleKernel());
        BeadleKernel stuck = stuckBehind(2);
        stuck.tick(2);
        same("two are stuck", stuck.stuck(), 3);
        digests("with stuck tasks", stuck);
        for (int way = 0; way <= 2; way++) {
            BeadleKernel k = Scene.busy(way);
            for (int i = 0; i < 60; i++) {
                digests("way " + way + ", clock " + k.clock(), k);
                k.tick(1);
            }
        }
    }

    @Says({"A number d starts with 58049", "(whether something is so counts 1 or 0): clock(), tasks(), processors()",
        "told() of 0 to 4; for each processor on(), and ran() of 1 to 5", "for each EVENT number(), awaiting(). Returns d."})
    void promise39_ofNoTasksAndOfSixteen() {
        for (int tasks = 0; tasks <= 16; tasks++) {
            digests(tasks + " tasks", Scene.fresh(tasks));
        }
        for (int processors = 1; processors <= 3; processors++) {
            BeadleKernel k = Scene.fresh(16);
            k.setProcessors(processors);
            for (int task = 0; task < 16; task++) {
                k.addStep(task, Scene.LOCK, task % 6);
                k.addStep(task, Scene.AWAIT, task % 5);
                k.addStep(task, Scene.RUN, 3);
                k.start(task);
            }
            for (int i = 0; i < 20; i++) {
                k.tick(1);
                k.signal(i % 6);
                digests(processors + " processors", k);
            }
        }
    }

    @Says("for each of the following numbers x, d becomes d * 31 + x")
    void promise39_changesNothing() {
        for (int way = 0; way <= 2; way++) {
            int itsWay = way;
            changesNothing(() -> Scene.busy(itsWay), BeadleKernel::digest);
        }
    }
}
