/** Counts the checks of one test and says which of them went wrong. */
final class Checks {

    private final String name;
    private String test = "";
    private int done = 0;
    private int doneBefore = 0;
    private int wrong = 0;

    Checks(String name) {
        this.name = name;
    }

    /** From here on the checks are those of a test of its own, which must make at least one. */
    void begin(String itsTest) {
        end();
        test = itsTest;
    }

    private void end() {
        if (!test.isEmpty()) {
            note(done > doneBefore, "made no check");
        }
        doneBefore = done;
    }

    void same(String what, long got, long want) {
        note(got == want, what + " answered " + got + ", due is " + want);
    }

    void same(String what, double got, double want) {
        note(Double.compare(got, want) == 0, what + " answered " + got + ", due is " + want);
    }

    void same(String what, String got, String want) {
        note(got.equals(want), what + " answered " + got + ", due is " + want);
    }

    void isTrue(String what, boolean got) {
        note(got, what);
    }

    /** The call must throw just this kind, with a text, and must change nothing. */
    void refused(String what, BeadleKernel kernel, Class<? extends RuntimeException> kind, Runnable call) {
        long before = kernel.digest();
        RuntimeException thrown = null;
        try {
            call.run();
        } catch (RuntimeException e) {
            thrown = e;
        }
        String got = thrown == null ? "nothing" : thrown.getClass().getSimpleName();
        note(thrown != null && thrown.getClass() == kind, what + " threw " + got + ", due is " + kind.getSimpleName());
        same(what + ": the digest behind it", kernel.digest(), before);
    }

    private void note(boolean right, String text) {
        done++;
        if (!right) {
            wrong++;
            if (wrong <= 50) {
                System.out.println(name + ": " + (test.isEmpty() ? "" : test + ": ") + text);
            }
        }
    }

    void close() {
        end();
        System.out.println(name + ": " + done + " checks, " + wrong + " wrong");
        if (wrong > 0 || done == 0) {
            System.exit(1);
        }
    }
}
