/** Counts checks, and prints those that fail. */
final class Checks {
    interface Call {
        long run();
    }

    private final String name;
    private int passed = 0;
    private int failed = 0;

    Checks(String name) {
        this.name = name;
    }

    void due(String call, long got, long want) {
        if (got == want) {
            passed++;
            return;
        }
        fail(call + " answered " + got + ", due is " + want);
    }

    void dueTrue(String what, boolean holds) {
        if (holds) {
            passed++;
            return;
        }
        fail(what);
    }

    /** The call must throw just this exception; that it changes nothing at all is looked at in Sentences. */
    void dueThrows(String call, Log x, Class<? extends RuntimeException> want, Told.Call run) {
        String before = fewAnswers(x);
        String got = Told.outcome(x, run);
        if (!got.equals(want.getSimpleName())) {
            fail(call + " gave " + got + ", due is " + want.getSimpleName());
        } else if (!fewAnswers(x).equals(before)) {
            fail(call + " threw, but changed something");
        } else {
            passed++;
        }
    }

    private static String fewAnswers(Log x) {
        return x.about(0) + " " + x.about(1) + " " + x.about(3) + " " + x.about(4) + " " + x.errorPosition();
    }

    void fail(String what) {
        failed++;
        if (failed <= 40) {
            System.out.println(name + ": " + what);
        }
    }

    /** Prints the counts; ends the program with exit code 1 if a check failed. */
    void close() {
        System.out.println(name + ": " + passed + " passed, " + failed + " failed");
        if (failed > 0) {
            System.exit(1);
        }
    }

    static String outcome(Call call) {
        try {
            return Long.toString(call.run());
        } catch (RuntimeException e) {
            return e.getClass().getSimpleName();
        }
    }
}
