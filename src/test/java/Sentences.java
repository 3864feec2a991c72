/** Checks of the sentences of the document that name a boundary: each sentence is told, and must have checks. */
final class Sentences {
    /** Makes a log, always the same one. */
    interface Maker {
        Log make();
    }

    interface Part {
        String of(Log log);
    }

    private final String name;
    private String sentence = "";
    private int sentences;
    private int checksOfSentence;
    private int passed;
    private int failed;

    Sentences(String name) {
        this.name = name;
    }

    /** All checks up to the next sentence belong to this one. */
    void sentence(int promise, String words) {
        endSentence();
        sentence = "promise " + promise + ", \"" + words + "\"";
        sentences++;
    }

    private void endSentence() {
        if (sentences > 0 && checksOfSentence == 0) {
            fail("no check");
        }
        checksOfSentence = 0;
    }

    void due(String call, long got, long want) {
        holds(call + " answered " + got + ", due is " + want, got == want);
    }

    void dueText(String call, String got, String want) {
        holds(call + " is <" + got + ">, due is <" + want + ">", got.equals(want));
    }

    private void holds(String what, boolean right) {
        checksOfSentence++;
        if (right) {
            passed++;
            return;
        }
        fail(what);
    }

    private void fail(String what) {
        failed++;
        if (failed <= 40) {
            System.out.println(name + ", " + sentence + ": " + what);
        }
    }

    /** The call answers this on a new log of the maker. */
    void answers(String call, Maker maker, Told.Call run, long want) {
        dueText(call, Told.outcome(maker.make(), run), Long.toString(want));
    }

    /** The call throws just this exception, and the log is in all as if it had not been made. */
    void refuses(String call, Maker maker, Class<? extends RuntimeException> want, Told.Call run) {
        dueText(call, Told.outcome(maker.make(), run), want.getSimpleName());
        same(call + " changed", maker, run, log -> 0);
    }

    /** The call leaves all as if it had not been made: the text, the state, what is remembered, the slots. */
    void changesNothing(String call, Maker maker, Told.Call run) {
        same(call + " changed", maker, run, log -> 0);
    }

    /** Both calls leave wholly the same. */
    void same(String what, Maker maker, Told.Call one, Told.Call other) {
        samePart(what + " the text", maker, one, other, Told::text);
        samePart(what + " the lines", maker, one, other, Told::lines);
        samePart(what + " the templates", maker, one, other, Told::templates);
        samePart(what + " the remembered states", maker, one, other, Told::remembered);
        samePart(what + " save slot 0", maker, one, other, log -> Told.slot(log, 0));
        samePart(what + " save slot 1", maker, one, other, log -> Told.slot(log, 1));
    }

    // A part has a log of its own, because asking for it changes the log and takes many calls.
    private void samePart(String what, Maker maker, Told.Call one, Told.Call other, Part part) {
        Log first = maker.make();
        Log second = maker.make();
        Told.outcome(first, one);
        Told.outcome(second, other);
        String got = part.of(first);
        String want = part.of(second);
        holds(what + ": " + got + " <> " + want, got.equals(want));
    }

    /** Prints the counts; ends the program with exit code 1 if a check failed. */
    void close() {
        endSentence();
        System.out.println(name + ": " + sentences + " sentences, " + passed + " passed, " + failed + " failed");
        if (failed > 0) {
            System.exit(1);
        }
    }
}
