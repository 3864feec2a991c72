/** A LineTemplates that counts its calls, since nothing is promised of one behind its 512th call. */
final class Log {
    static final int NONE = LineTemplates.NONE;
    static final int MOST_CALLS = 512;

    private final LineTemplates log = new LineTemplates();
    private int calls;

    /** A log with these lines, taken in this order; the last one is still its text. */
    static Log of(String... lines) {
        Log made = new Log();
        for (String line : lines) {
            made.write(line).take();
        }
        return made;
    }

    /** Makes the text this one. */
    Log write(String text) {
        clearText();
        return add(text);
    }

    Log add(String text) {
        for (int k = 0; k < text.length(); k++) {
            append(text.charAt(k));
        }
        return this;
    }

    /** Takes the line i so many times more. */
    Log repeat(int i, int times) {
        for (int k = 0; k < times; k++) {
            again(i);
        }
        return this;
    }

    int calls() {
        return calls;
    }

    private LineTemplates counted() {
        calls++;
        if (calls > MOST_CALLS) {
            throw new AssertionError("a test makes more than 512 calls on one object");
        }
        return log;
    }

    int append(int c) {
        return counted().append(c);
    }

    int clearText() {
        return counted().clearText();
    }

    int errorPosition() {
        return counted().errorPosition();
    }

    int about(int what) {
        return counted().about(what);
    }

    int line(int i, int what) {
        return counted().line(i, what);
    }

    int charAt(int i, int k) {
        return counted().charAt(i, k);
    }

    int value(int i, int p) {
        return counted().value(i, p);
    }

    int template(int t, int what) {
        return counted().template(t, what);
    }

    int piece(int t, int p, int what) {
        return counted().piece(t, p, what);
    }

    int rises(int t, int p) {
        return counted().rises(t, p);
    }

    int take() {
        return counted().take();
    }

    int again(int i) {
        return counted().again(i);
    }

    int remove(int i) {
        return counted().remove(i);
    }

    int learn() {
        return counted().learn();
    }

    int learnAll() {
        return counted().learnAll();
    }

    int open(int t, int p) {
        return counted().open(t, p);
    }

    int forget() {
        return counted().forget();
    }

    int undo() {
        return counted().undo();
    }

    int which() {
        return counted().which();
    }

    int wouldCost() {
        return counted().wouldCost();
    }

    int saves() {
        return counted().saves();
    }

    int next(int t, int k) {
        return counted().next(t, k);
    }

    int withValue(int v) {
        return counted().withValue(v);
    }

    int runScript(int n, long script) {
        return counted().runScript(n, script);
    }

    int simulate(long seed, int m) {
        return counted().simulate(seed, m);
    }

    int save(int slot) {
        return counted().save(slot);
    }

    int restore(int slot) {
        return counted().restore(slot);
    }
}
