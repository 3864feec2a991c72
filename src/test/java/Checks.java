/** Counts checks, prints those that fail, and tells what an object answers to all calls that only ask. */
final class Checks {
    interface Call {
        long run();
    }

    private final String name;
    private int passed = 0;
    private int failed = 0;

    Checks(String name) {
        this.name = name;
    }

    void due(String call, long got, long want) {
        if (got == want) {
            passed++;
            return;
        }
        fail(call + " answered " + got + ", due is " + want);
    }

    void dueTrue(String what, boolean holds) {
        if (holds) {
            passed++;
            return;
        }
        fail(what);
    }

    /** The call must throw just this exception, and the object must answer as before. */
    void dueThrows(String call, LineTemplates x, Class<? extends RuntimeException> want, Call run) {
        String before = allAnswers(x);
        String got = outcome(run);
        if (!got.equals(want.getSimpleName())) {
            fail(call + " gave " + got + ", due is " + want.getSimpleName());
        } else if (!allAnswers(x).equals(before)) {
            fail(call + " threw, but changed something");
        } else {
            passed++;
        }
    }

    /** The call must leave every answer as it was. */
    void dueUnchanged(String call, LineTemplates x, Call run) {
        String before = allAnswers(x);
        outcome(run);
        dueTrue(call + " changed something", allAnswers(x).equals(before));
    }

    void fail(String what) {
        failed++;
        if (failed <= 40) {
            System.out.println(name + ": " + what);
        }
    }

    /** Prints the counts; ends the program with exit code 1 if a check failed. */
    void close() {
        System.out.println(name + ": " + passed + " passed, " + failed + " failed");
        if (failed > 0) {
            System.exit(1);
        }
    }

    static String outcome(Call call) {
        try {
            return Long.toString(call.run());
        } catch (RuntimeException e) {
            return e.getClass().getSimpleName();
        }
    }

    static String allAnswers(LineTemplates x) {
        StringBuilder all = new StringBuilder();
        for (int what = 0; what < 8; what++) {
            all.append(x.about(what)).append(' ');
        }
        for (int i = 0; i < x.about(0); i++) {
            all.append('\n').append(lineText(x, i));
            for (int what = 0; what < 4; what++) {
                all.append(' ').append(x.line(i, what));
            }
        }
        for (int t = 0; t < x.about(1); t++) {
            all.append('\n');
            for (int what = 0; what < 6; what++) {
                all.append(' ').append(x.template(t, what));
            }
            for (int p = 0; p < x.template(t, 0); p++) {
                for (int what = 0; what < 3; what++) {
                    all.append(' ').append(x.piece(t, p, what));
                }
                all.append(' ').append(x.rises(t, p));
            }
            all.append(' ').append(nextText(x, t));
        }
        all.append('\n').append(x.errorPosition()).append(' ').append(x.which());
        return all.append(' ').append(x.wouldCost()).append(' ').append(x.saves()).toString();
    }

    static String lineText(LineTemplates x, int i) {
        StringBuilder text = new StringBuilder();
        for (int k = 0; x.charAt(i, k) != LineTemplates.NONE; k++) {
            text.append((char) x.charAt(i, k));
        }
        return text.toString();
    }

    static String nextText(LineTemplates x, int t) {
        StringBuilder text = new StringBuilder();
        for (int k = 0; x.next(t, k) != LineTemplates.NONE; k++) {
            text.append((char) x.next(t, k));
        }
        return text.toString();
    }
}
