import java.util.ArrayList;
import java.util.List;
import java.util.function.Consumer;
import java.util.function.Supplier;

/** That a call that is refused changes nothing: each method that throws is refused again and again on one object. */
public final class RefusedBoundaryTest extends BoundaryTests {

    private static final int[] NO_TASKS = {-1, 7, 16, LEAST, MOST};

    private final List<Consumer<BeadleKernel>> calls = new ArrayList<>();

    public static void main(String[] args) {
        new RefusedBoundaryTest().runAll();
    }

    /** A call with one number, whose answer does not matter. */
    private interface Asked {
        void of(BeadleKernel k, int number);
    }

    private void add(int[] numbers, Asked call) {
        for (int number : numbers) {
            calls.add(k -> call.of(k, number));
        }
    }

    /** Makes all calls that were added, twice, in each way, and in one that has no room for more tasks. */
    private void allChangeNothing() {
        for (int way = 0; way <= 2; way++) {
            int itsWay = way;
            changeNothing(() -> Scene.busy(itsWay));
        }
        calls.clear();
    }

    private void changeNothing(Supplier<BeadleKernel> scene) {
        BeadleKernel k = scene.get();
        for (int i = 0; i < 2 * calls.size(); i++) {
            boolean thrown = false;
            try {
                calls.get(i % calls.size()).accept(k);
            } catch (IllegalArgumentException | IllegalStateException | IndexOutOfBoundsException e) {
                thrown = true;
            }
            checks.isTrue("the call " + i % calls.size() + " was not refused", thrown);
        }
        checks.isTrue("something was changed", Scene.future(k).equals(Scene.future(scene.get())));
    }

    @Says("A method that throws an exception changes nothing.")
    void promise02_changesNothing() {
        add(beside(1, 3), BeadleKernel::setProcessors);
        allChangeNothing();
    }

    @Says("A method that throws an exception changes nothing.")
    void promise03_changesNothing() {
        add(beside(0, 2), (k, n) -> k.setWay(n, 9, 1));
        add(beside(1, 10), (k, n) -> k.setWay(1, n, 1));
        add(beside(0, 50), (k, n) -> k.setWay(2, 9, n));
        allChangeNothing();
    }

    @Says("A method that throws an exception changes nothing.")
    void promise04_changesNothing() {
        add(beside(0, 3), (k, n) -> k.setQuota(n, 2));
        add(beside(0, 50), (k, n) -> k.setQuota(3, n));
        allChangeNothing();
    }

    @Says("A method that throws an exception changes nothing.")
    void promise05_changesNothing() {
        add(beside(1, 50), BeadleKernel::setPeriod);
        allChangeNothing();
    }

    @Says("A method that throws an exception changes nothing.")
    void promise06_changesNothing() {
        add(beside(0, 7), (k, n) -> k.addTask(n, 1, 2));
        add(beside(0, 3), (k, n) -> k.addTask(1, n, 2));
        add(beside(1, 5), (k, n) -> k.addTask(1, 1, n));
        allChangeNothing();
        calls.add(k -> k.addTask(0, 0, 1));
        changeNothing(() -> Scene.fresh(16));
        calls.clear();
    }

    @Says("A method that throws an exception changes nothing.")
    void promise07_changesNothing() {
        add(NO_TASKS, (k, n) -> k.addStep(n, Scene.RUN, 1));
        add(beside(0, 6), (k, n) -> k.addStep(6, n, 1));
        add(beside(1, 20), (k, n) -> k.addStep(6, Scene.RUN, n));
        add(beside(0, 5), (k, n) -> k.addStep(6, Scene.LOCK, n));
        add(new int[] {0, 1, 2, 3, 4, 5}, (k, n) -> k.addStep(n, Scene.RUN, 1));
        allChangeNothing();
    }

    @Says("A method that throws an exception changes nothing.")
    void promise08_changesNothing() {
        add(NO_TASKS, BeadleKernel::start);
        add(new int[] {0, 1, 2, 3, 4, 5, 6}, BeadleKernel::start);
        allChangeNothing();
        calls.add(k -> k.start(15));
        changeNothing(() -> Scene.fresh(16));
        calls.clear();
    }

    @Says("A method that throws an exception changes nothing.")
    void promise09_changesNothing() {
        add(NO_TASKS, (k, n) -> k.setRank(n, 0));
        for (int rank : beside(0, 7)) {
            add(new int[] {0, 1, 2, 3, 4, 5, 6}, (k, n) -> k.setRank(n, rank));
        }
        allChangeNothing();
    }

    @Says("A method that throws an exception changes nothing.")
    void promise10_changesNothing() {
        add(NO_TASKS, BeadleKernel::end);
        calls.add(k -> k.end(4));
        allChangeNothing();
    }

    @Says("A method that throws an exception changes nothing.")
    void promise11_changesNothing() {
        add(beside(0, 5), BeadleKernel::signal);
        allChangeNothing();
    }

    @Says("A method that throws an exception changes nothing.")
    void promise12_changesNothing() {
        add(beside(1, 40), BeadleKernel::tick);
        allChangeNothing();
    }

    @Says("A method that throws an exception changes nothing.")
    void promise15_changesNothing() {
        add(NO_TASKS, BeadleKernel::stateOf);
        allChangeNothing();
    }

    @Says("A method that throws an exception changes nothing.")
    void promise16_changesNothing() {
        add(NO_TASKS, BeadleKernel::stepOf);
        allChangeNothing();
    }

    @Says("A method that throws an exception changes nothing.")
    void promise17_changesNothing() {
        add(NO_TASKS, BeadleKernel::roundsOf);
        allChangeNothing();
    }

    @Says("A method that throws an exception changes nothing.")
    void promise18_changesNothing() {
        add(NO_TASKS, BeadleKernel::keyOf);
        allChangeNothing();
    }

    @Says("A method that throws an exception changes nothing.")
    void promise19_changesNothing() {
        add(NO_TASKS, BeadleKernel::lentKey);
        allChangeNothing();
    }

    @Says("A method that throws an exception changes nothing.")
    void promise20_changesNothing() {
        add(NO_TASKS, BeadleKernel::standOf);
        allChangeNothing();
    }

    @Says("A method that throws an exception changes nothing.")
    void promise21_changesNothing() {
        add(NO_TASKS, BeadleKernel::levelOf);
        allChangeNothing();
    }

    @Says("A method that throws an exception changes nothing.")
    void promise22_changesNothing() {
        add(NO_TASKS, (k, n) -> k.told(n, 0));
        add(beside(0, 4), (k, n) -> k.told(0, n));
        allChangeNothing();
    }

    @Says("A method that throws an exception changes nothing.")
    void promise24_changesNothing() {
        add(beside(0, 2), BeadleKernel::on);
        allChangeNothing();
    }

    @Says("A method that throws an exception changes nothing.")
    void promise25_changesNothing() {
        add(beside(0, 2), (k, n) -> k.ran(n, 1));
        add(beside(1, 30), (k, n) -> k.ran(0, n));
        allChangeNothing();
    }

    @Says("A method that throws an exception changes nothing.")
    void promise28_changesNothing() {
        add(beside(0, 3), BeadleKernel::used);
        allChangeNothing();
    }

    @Says("A method that throws an exception changes nothing.")
    void promise29_changesNothing() {
        add(beside(0, 5), BeadleKernel::holder);
        allChangeNothing();
    }

    @Says("A method that throws an exception changes nothing.")
    void promise30_changesNothing() {
        add(beside(0, 5), BeadleKernel::blocked);
        allChangeNothing();
    }

    @Says("A method that throws an exception changes nothing.")
    void promise31_changesNothing() {
        add(beside(0, 5), BeadleKernel::number);
        allChangeNothing();
    }

    @Says("A method that throws an exception changes nothing.")
    void promise32_changesNothing() {
        add(beside(0, 5), BeadleKernel::awaiting);
        allChangeNothing();
    }

    @Says("A method that throws an exception changes nothing.")
    void promise35_changesNothing() {
        add(NO_TASKS, (k, n) -> k.doneIn(n, 9));
        add(beside(1, 60), (k, n) -> k.doneIn(0, n));
        allChangeNothing();
    }

    @Says("A method that throws an exception changes nothing.")
    void promise36_changesNothing() {
        add(NO_TASKS, (k, n) -> k.doneWith(n, 0, 9));
        add(beside(0, 7), (k, n) -> k.doneWith(0, n, 9));
        add(beside(1, 60), (k, n) -> k.doneWith(0, 7, n));
        allChangeNothing();
    }

    @Says("A method that throws an exception changes nothing.")
    void promise37_changesNothing() {
        add(beside(1, 60), BeadleKernel::idleIn);
        allChangeNothing();
    }

    @Says("A method that throws an exception changes nothing.")
    void promise38_changesNothing() {
        add(beside(1, 60), BeadleKernel::stuckIn);
        allChangeNothing();
    }
}
