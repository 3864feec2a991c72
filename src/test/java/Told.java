/** What a log tells when it is asked for all of something, as texts that can be compared. */
final class Told {
    interface Call {
        long on(Log log);
    }

    private static final int NONE = Log.NONE;

    private Told() {
    }

    /** The answer of the call, or the name of what it throws. */
    static String outcome(Log log, Call call) {
        try {
            return Long.toString(call.on(log));
        } catch (RuntimeException e) {
            return e.getClass().getSimpleName();
        }
    }

    static String text(Log log) {
        StringBuilder all = new StringBuilder();
        all.append(log.errorPosition()).append(' ').append(log.which()).append(' ').append(log.wouldCost());
        all.append(' ').append(outcome(log, x -> x.take())).append(' ').append(sums(log));
        if (log.about(0) > 0) {
            all.append(' ').append(line(log, log.about(0) - 1));
        }
        return all.append(' ').append(log.clearText()).toString();
    }

    static String sums(Log log) {
        StringBuilder all = new StringBuilder();
        for (int what = 0; what < 8; what++) {
            all.append(what == 0 ? "" : " ").append(log.about(what));
        }
        return all.toString();
    }

    static String line(Log log, int i) {
        StringBuilder text = new StringBuilder();
        for (int c = log.charAt(i, 0); c != NONE; c = log.charAt(i, text.length())) {
            text.append((char) c);
        }
        return text.toString();
    }

    static String lines(Log log) {
        StringBuilder all = new StringBuilder();
        for (int i = 0; i < log.about(0); i++) {
            all.append(i == 0 ? "" : "|").append(line(log, i));
            all.append('/').append(log.line(i, 0)).append('/').append(log.line(i, 2));
        }
        return all.toString();
    }

    static String templates(Log log) {
        StringBuilder all = new StringBuilder();
        for (int t = 0; t < log.about(1); t++) {
            all.append(t == 0 ? "" : "|").append(kinds(log, t));
            for (int what = 1; what < 6; what++) {
                all.append(' ').append(log.template(t, what));
            }
            all.append(' ').append(next(log, t));
        }
        return all.append(' ').append(log.saves()).toString();
    }

    static String kinds(Log log, int t) {
        StringBuilder all = new StringBuilder();
        int pieces = log.template(t, 0);
        for (int p = 0; p < pieces; p++) {
            all.append(log.piece(t, p, 0));
        }
        return all.toString();
    }

    /** The templates of all lines, one behind the other. */
    static String templatesOfLines(Log log) {
        return numbersOfLines(log, 0);
    }

    static String costsOfLines(Log log) {
        return numbersOfLines(log, 2);
    }

    private static String numbersOfLines(Log log, int what) {
        StringBuilder all = new StringBuilder();
        int lines = log.about(0);
        for (int i = 0; i < lines; i++) {
            all.append(i == 0 ? "" : " ").append(log.line(i, what));
        }
        return all.toString();
    }

    static String next(Log log, int t) {
        StringBuilder text = new StringBuilder();
        for (int c = log.next(t, 0); c != NONE; c = log.next(t, text.length())) {
            text.append((char) c);
        }
        return text.toString();
    }

    static String remembered(Log log) {
        StringBuilder all = new StringBuilder(sums(log));
        String left = outcome(log, x -> x.undo());
        while (!left.equals("IllegalStateException")) {
            all.append('|').append(left).append(": ").append(sums(log));
            left = outcome(log, x -> x.undo());
        }
        return all.toString();
    }

    static String slot(Log log, int slot) {
        String lines = outcome(log, x -> x.restore(slot));
        return lines.equals("IllegalStateException") ? lines : lines + ": " + lines(log);
    }
}
