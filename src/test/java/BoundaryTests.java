import java.lang.reflect.InvocationTargetException;
import java.lang.reflect.Method;
import java.util.ArrayList;
import java.util.Comparator;
import java.util.List;
import java.util.function.Consumer;
import java.util.function.Supplier;

/** Runs the boundary tests of a class one by one, each told by its own name, which begins with its promise. */
abstract class BoundaryTests {

    static final int LEAST = Integer.MIN_VALUE;
    static final int MOST = Integer.MAX_VALUE;
    static final Class<IllegalArgumentException> ARGUMENT = IllegalArgumentException.class;
    static final Class<IllegalStateException> STATE = IllegalStateException.class;
    static final Class<IndexOutOfBoundsException> INDEX = IndexOutOfBoundsException.class;

    final Checks checks = new Checks(getClass().getSimpleName());

    static List<Method> testsOf(Class<?> owner) {
        List<Method> tests = new ArrayList<>();
        for (Method method : owner.getDeclaredMethods()) {
            if (method.isAnnotationPresent(Says.class)) {
                tests.add(method);
            }
        }
        tests.sort(Comparator.comparing(Method::getName));
        return tests;
    }

    final void runAll() {
        for (Method test : testsOf(getClass())) {
            checks.begin(test.getName());
            try {
                test.invoke(this);
            } catch (InvocationTargetException e) {
                checks.isTrue("threw " + e.getCause(), false);
            } catch (IllegalAccessException e) {
                checks.isTrue("could not be called", false);
            }
        }
        checks.close();
    }

    final void same(String what, long got, long want) {
        checks.same(what, got, want);
    }

    final void same(String what, String got, String want) {
        checks.same(what, got, want);
    }

    /** The call must throw just this kind, and all that the kernel would answer later must be as without the call. */
    final void refused(String what, Supplier<BeadleKernel> scene, Class<? extends RuntimeException> kind,
            Consumer<BeadleKernel> call) {
        BeadleKernel kernel = scene.get();
        RuntimeException thrown = null;
        try {
            call.accept(kernel);
        } catch (RuntimeException e) {
            thrown = e;
        }
        String got = thrown == null ? "nothing" : thrown.getClass().getSimpleName();
        checks.same(what + " threw", got, kind.getSimpleName());
        checks.isTrue(what + " changed something", Scene.future(kernel).equals(Scene.future(scene.get())));
    }

    /** The same with the busy scene in each way. */
    final void refused(String what, Class<? extends RuntimeException> kind, Consumer<BeadleKernel> call) {
        for (int way = 0; way <= 2; way++) {
            int itsWay = way;
            refused(what + ", way " + way, () -> Scene.busy(itsWay), kind, call);
        }
    }

    static int[] beside(int least, int most) {
        return new int[] {least - 1, most + 1, LEAST, MOST};
    }
}
