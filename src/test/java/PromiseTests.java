/** For each promise of the document: ordinary inputs, the edges that it names, and wrong inputs. */
public final class PromiseTests {
    private static final int NONE = LineTemplates.NONE;
    private static final Class<IllegalArgumentException> ARGUMENT = IllegalArgumentException.class;
    private static final Class<IllegalStateException> STATE = IllegalStateException.class;
    private static final Class<IndexOutOfBoundsException> INDEX = IndexOutOfBoundsException.class;
    private static final int[] OUTSIDE = {Integer.MIN_VALUE, -9999, -1, 100, Integer.MAX_VALUE};

    private final Checks checks = new Checks("PromiseTests");

    public static void main(String[] args) {
        PromiseTests tests = new PromiseTests();
        tests.newObject();
        tests.append();
        tests.clearText();
        tests.errorPosition();
        tests.about();
        tests.line();
        tests.charAt();
        tests.value();
        tests.template();
        tests.piece();
        tests.rises();
        tests.take();
        tests.takeGetsFirstFit();
        tests.again();
        tests.remove();
        tests.learn();
        tests.learnPairs();
        tests.learnAll();
        tests.open();
        tests.forget();
        tests.undo();
        tests.which();
        tests.wouldCost();
        tests.saves();
        tests.next();
        tests.withValue();
        tests.runScript();
        tests.runScriptGroups();
        tests.simulate();
        tests.save();
        tests.restore();
        tests.checks.close();
    }

    private static Log write(Log x, String text) {
        x.clearText();
        for (int k = 0; k < text.length(); k++) {
            x.append(text.charAt(k));
        }
        return x;
    }

    private static Log log(String... lines) {
        Log x = new Log();
        for (String line : lines) {
            write(x, line).take();
        }
        return x;
    }

    /** Twelve templates of one line each; the letters are words that can all be learned from. */
    private static Log fullOfTemplates() {
        return log("a", "b", "c", "d", "e", "f", "g", "h", "i", "j", "k", "l");
    }

    private static Log fullOfLines() {
        Log x = log("a 1");
        for (int i = 1; i < 24; i++) {
            x.again(0);
        }
        return x;
    }

    private void due(String call, long got, long want) {
        checks.due(call, got, want);
    }

    private void dueText(String call, String got, String want) {
        checks.dueTrue(call + " is <" + got + ">, due is <" + want + ">", got.equals(want));
    }

    /** The templates of all lines, one behind the other. */
    private static String templatesOf(Log x) {
        StringBuilder all = new StringBuilder();
        for (int i = 0; i < x.about(0); i++) {
            all.append(i == 0 ? "" : " ").append(x.line(i, 0));
        }
        return all.toString();
    }

    private static String costsOf(Log x) {
        StringBuilder all = new StringBuilder();
        for (int i = 0; i < x.about(0); i++) {
            all.append(i == 0 ? "" : " ").append(x.line(i, 2));
        }
        return all.toString();
    }

    private static String kindsOf(Log x, int t) {
        StringBuilder all = new StringBuilder();
        for (int p = 0; p < x.template(t, 0); p++) {
            all.append(x.piece(t, p, 0));
        }
        return all.toString();
    }

    // Promise 1

    private void newObject() {
        due("NONE", LineTemplates.NONE, -9999);
        Log x = new Log();
        for (int what = 0; what < 8; what++) {
            due("about(" + what + ") of a new log", x.about(what), 0);
        }
        due("errorPosition() of a new log", x.errorPosition(), 0);
        due("learn() of a new log", x.learn(), NONE);
        Log y = new Log();
        checks.dueThrows("undo() of a new log", y, STATE, log -> log.undo());
        checks.dueThrows("restore(0) of a new log", y, STATE, log -> log.restore(0));
        checks.dueThrows("take() of a new log", y, STATE, log -> log.take());
        due("clearText() of a new log", y.clearText(), 0);
        write(x, "a").take();
        due("another object has its own lines", y.about(0), 0);
    }

    // Promise 2

    private void append() {
        Log x = new Log();
        due("append(0)", x.append(0), 1);
        due("append(255)", x.append(255), 2);
        for (int k = 3; k <= 50; k++) {
            due("append to length " + k, x.append('a'), k);
        }
        checks.dueThrows("append to a full text", x, STATE, log -> log.append('a'));
        checks.dueThrows("append(-1) to a full text", x, ARGUMENT, log -> log.append(-1));
        checks.dueThrows("append(256) to a full text", x, ARGUMENT, log -> log.append(256));
        due("length after refused characters", x.clearText(), 50);
        for (int c : new int[] {-1, 256, Integer.MIN_VALUE, Integer.MAX_VALUE}) {
            checks.dueThrows("append(" + c + ")", x, ARGUMENT, log -> log.append(c));
        }
        due("append after refused characters", x.append('b'), 1);
    }

    // Promise 3

    private void clearText() {
        Log x = log("ab 1");
        due("clearText()", x.clearText(), 4);
        due("clearText() of an empty text", x.clearText(), 0);
        due("errorPosition() of the emptied text", x.errorPosition(), 0);
        due("lines stay", x.about(0), 1);
        due("no action", x.undo(), 0);
    }

    // Promise 4

    private void errorPosition() {
        String forty = "abcdefghij klmnopqrst uvwxyzabcd efghijk";
        String twelve = "a:b:c:d:e:f:";
        dueError("", 0);
        dueError("a", NONE);
        dueError("az09 :=", NONE);
        dueError(forty, NONE);
        dueError(forty + "l", 40);
        dueError(forty + "?", 40);
        dueError(forty + "123456789", 40);
        dueError(twelve, NONE);
        dueError(twelve + ":", 12);
        dueError(twelve + "g", 12);
        dueError("a1b2c3d4e5f6", NONE);
        dueError("a1b2c3d4e5f66", NONE);
        dueError("a1b2c3d4e5f6g", 12);
        dueError("            ", NONE);
        dueError("::::::======", NONE);
        dueError("::::::======:", 12);
        dueError("123456", NONE);
        dueError("1234567", 6);
        dueError("0000000", 6);
        dueError("ab 1234567", 9);
        dueError("123456:123456 123456", NONE);
        dueError("123456:1234567", 13);
        dueError("1234567A", 6);
        dueError("A1234567", 0);
        for (char c : new char[] {0, 31, '!', '/', ';', '<', '>', 'A', 'Z', '`', '{', 127, 160, 233, 255}) {
            dueError("ab" + c + "d", 2);
        }
        for (char c : new char[] {'a', 'z', '0', '9', ' ', ':', '='}) {
            dueError("" + c, NONE);
        }
    }

    private void dueError(String text, int want) {
        due("errorPosition() of <" + text + ">", write(new Log(), text).errorPosition(), want);
    }

    // Promise 5

    private void about() {
        Log x = log("get a 1", "get a 2", "put a 30", "x=7:x", "  ");
        int[] want = {5, 4, 29, 10, 21, 3, 0, 4};
        for (int what = 0; what < 8; what++) {
            due("about(" + what + ")", x.about(what), want[what]);
        }
        x.learn();
        int[] learnt = {5, 3, 29, 17, 12, 2, 1, 4};
        for (int what = 0; what < 8; what++) {
            due("about(" + what + ") when learnt", x.about(what), learnt[what]);
        }
        for (int what : new int[] {-1, 8, NONE, Integer.MIN_VALUE, Integer.MAX_VALUE}) {
            checks.dueThrows("about(" + what + ")", x, ARGUMENT, log -> log.about(what));
        }
        due("words twice in one line, and parts of others", log("ab ab:aba b", "ab1b aba").about(7), 3);
        due("words in no line any more", removed(log("ab", "cd"), 0).about(7), 1);
    }

    private static Log removed(Log x, int i) {
        x.remove(i);
        return x;
    }

    // Promise 6

    private void line() {
        Log x = log("a 7", "b 10", "a 8", "a 9", "a 10", "b 010", "a 11");
        dueText("templates", templatesOf(x), "0 1 0 0 0 1 0");
        // 8 is 7 + 0 + 1: a step of 0 at first; 10 has more digits than 9.
        dueText("costs", costsOf(x), "2 3 2 2 3 4 2");
        int[] before = {0, 0, 1, 2, 3, 1, 4};
        int[] lengths = {3, 4, 3, 3, 4, 5, 4};
        for (int i = 0; i < 7; i++) {
            due("line(" + i + ", 1)", x.line(i, 1), lengths[i]);
            due("line(" + i + ", 3)", x.line(i, 3), before[i]);
        }
        for (int i : new int[] {-1, 7, 24, Integer.MIN_VALUE, Integer.MAX_VALUE}) {
            checks.dueThrows("line(" + i + ", 0)", x, INDEX, log -> log.line(i, 0));
            checks.dueThrows("line(" + i + ", 9)", x, INDEX, log -> log.line(i, 9));
        }
        for (int what : new int[] {-1, 4, Integer.MIN_VALUE, Integer.MAX_VALUE}) {
            checks.dueThrows("line(0, " + what + ")", x, ARGUMENT, log -> log.line(0, what));
        }
        lineCosts();
    }

    private void lineCosts() {
        dueText("the same number again", costsOf(log("12", "12", "12")), "3 2 2");
        dueText("the step counts from the third line on", costsOf(log("10", "12", "14", "16", "17", "18")),
                "3 3 2 2 3 2");
        dueText("falling numbers", costsOf(log("30", "20", "10", "00")), "3 3 2 2");
        dueText("as many digits", costsOf(log("098", "099", "100", "0101")), "4 4 2 5");
        dueText("two numbers", costsOf(log("100 200", "110 200", "120 200", "130 201")), "7 5 3 5");
        dueText("other templates between", costsOf(log("a10", "b10", "a20", "b10", "a30")), "3 3 3 2 2");
        Log x = log("get", "put", "get", "delete", "put");
        x.learnAll();
        dueText("words in a slot", costsOf(x), "4 4 2 7 2");
        Log y = log("get get", "put get", "get get");
        y.open(0, 2);
        dueText("a fixed word costs nothing", costsOf(y), "4 1 2");
    }

    // Promise 7

    private void charAt() {
        Log x = log("ab  09:=z", "c");
        dueText("line 0", Told.line(x, 0), "ab  09:=z");
        dueText("line 1", Told.line(x, 1), "c");
        due("charAt(0, 8)", x.charAt(0, 8), 'z');
        due("charAt(0, 9)", x.charAt(0, 9), NONE);
        due("charAt(1, 1)", x.charAt(1, 1), NONE);
        due("charAt(0, most)", x.charAt(0, Integer.MAX_VALUE), NONE);
        checks.dueThrows("charAt(0, -1)", x, ARGUMENT, log -> log.charAt(0, -1));
        checks.dueThrows("charAt(0, least)", x, ARGUMENT, log -> log.charAt(0, Integer.MIN_VALUE));
        for (int i : new int[] {-1, 2, Integer.MIN_VALUE, Integer.MAX_VALUE}) {
            checks.dueThrows("charAt(" + i + ", 0)", x, INDEX, log -> log.charAt(i, 0));
            checks.dueThrows("charAt(" + i + ", -1)", x, INDEX, log -> log.charAt(i, -1));
        }
        String forty = "abcdefghij klmnopqrst uvwxyzabcd efghijk";
        dueText("a line of 40 characters", Told.line(log(forty), 0), forty);
    }

    // Promise 8

    private void value() {
        Log x = log("a 007=999999", "0");
        int[] want = {NONE, NONE, 7, NONE, 999999};
        for (int p = 0; p < 5; p++) {
            due("value(0, " + p + ")", x.value(0, p), want[p]);
        }
        due("value(1, 0)", x.value(1, 0), 0);
        for (int p : new int[] {-1, 5, 12, Integer.MIN_VALUE, Integer.MAX_VALUE}) {
            checks.dueThrows("value(0, " + p + ")", x, INDEX, log -> log.value(0, p));
        }
        checks.dueThrows("value(1, 1)", x, INDEX, log -> log.value(1, 1));
        for (int i : new int[] {-1, 2, Integer.MIN_VALUE, Integer.MAX_VALUE}) {
            checks.dueThrows("value(" + i + ", 0)", x, INDEX, log -> log.value(i, 0));
        }
    }

    // Promise 9

    private void template() {
        Log x = log("ab  1=2", "cd", "ab  33=44", "ce");
        x.learn();
        int[] first = {5, 2, 2, 0, 7, 0};
        int[] second = {1, 2, 0, 1, 1, 1};
        for (int what = 0; what < 6; what++) {
            due("template(0, " + what + ")", x.template(0, what), first[what]);
            due("template(1, " + what + ")", x.template(1, what), second[what]);
        }
        x.remove(0);
        due("first line when line 0 is gone", x.template(0, 5), 1);
        due("second template then", x.template(1, 5), 0);
        for (int t : new int[] {-1, 2, 12, Integer.MIN_VALUE, Integer.MAX_VALUE}) {
            checks.dueThrows("template(" + t + ", 0)", x, INDEX, log -> log.template(t, 0));
            checks.dueThrows("template(" + t + ", 6)", x, INDEX, log -> log.template(t, 6));
        }
        for (int what : new int[] {-1, 6, Integer.MIN_VALUE, Integer.MAX_VALUE}) {
            checks.dueThrows("template(0, " + what + ")", x, ARGUMENT, log -> log.template(0, what));
        }
    }

    // Promise 10

    private void piece() {
        Log x = log("get   ab=01:7", "get   ab=1:8", "get   cd=1:7");
        x.learn();
        int[][] want = {{0, 3, 1}, {1, 3, 1}, {4, 0, 2}, {2, 1, 1}, {3, 0, 1}, {2, 1, 1}, {3, 0, 2}};
        for (int p = 0; p < 7; p++) {
            for (int what = 0; what < 3; what++) {
                due("piece(0, " + p + ", " + what + ")", x.piece(0, p, what), want[p][what]);
            }
        }
        for (int t : new int[] {-1, 1, Integer.MIN_VALUE, Integer.MAX_VALUE}) {
            checks.dueThrows("piece(" + t + ", 0, 0)", x, INDEX, log -> log.piece(t, 0, 0));
            checks.dueThrows("piece(" + t + ", 0, 3)", x, INDEX, log -> log.piece(t, 0, 3));
        }
        for (int p : new int[] {-1, 7, 12, Integer.MIN_VALUE, Integer.MAX_VALUE}) {
            checks.dueThrows("piece(0, " + p + ", 0)", x, INDEX, log -> log.piece(0, p, 0));
            checks.dueThrows("piece(0, " + p + ", 3)", x, INDEX, log -> log.piece(0, p, 3));
        }
        for (int what : new int[] {-1, 3, Integer.MIN_VALUE, Integer.MAX_VALUE}) {
            checks.dueThrows("piece(0, 0, " + what + ")", x, ARGUMENT, log -> log.piece(0, 0, what));
        }
        Log y = log("a1b2c3d4e5f6", "ab ab ab");
        due("the twelfth piece", y.piece(0, 11, 0), 3);
        checks.dueThrows("a thirteenth piece", y, INDEX, log -> log.piece(0, 12, 0));
        y.open(1, 4);
        dueText("only the word that was opened is a slot", kindsOf(y, 1), "01014");
        due("one word in a slot", y.piece(1, 4, 2), 1);
    }

    // Promise 11

    private void rises() {
        due("one line", log("a 5").rises(0, 2), 1);
        due("two lines", log("a 5", "a 900").rises(0, 2), 2);
        due("three lines by one step", log("a 5", "a 7", "a 9").rises(0, 2), 3);
        due("steps change", log("a 5", "a 6", "a 9", "a 12", "a 15").rises(0, 2), 4);
        due("the last step differs", log("a 5", "a 6", "a 7", "a 9").rises(0, 2), 2);
        due("falling", log("a 9", "a 6", "a 3", "a 000").rises(0, 2), 4);
        due("equal", log("a 9", "a 09", "a 009").rises(0, 2), 3);
        due("lines of other templates between", log("a 1", "b 9", "a 2", "c", "a 3").rises(0, 2), 3);
        due("a step that comes back", log("a 1", "a 2", "a 4", "a 5", "a 6").rises(0, 2), 3);
        Log x = log("a 1=5:", "a 2=5:");
        int[] want = {NONE, NONE, 2, NONE, 2, NONE};
        for (int p = 0; p < 6; p++) {
            due("rises(0, " + p + ")", x.rises(0, p), want[p]);
        }
        x.open(0, 0);
        due("rises at a slot for words", x.rises(0, 0), NONE);
        for (int i : new int[] {-1, 6, Integer.MIN_VALUE, Integer.MAX_VALUE}) {
            checks.dueThrows("rises(0, " + i + ")", x, INDEX, log -> log.rises(0, i));
            checks.dueThrows("rises(" + i + ", 0)", x, INDEX, log -> log.rises(i, 0));
        }
        checks.dueThrows("rises(1, 0)", x, INDEX, log -> log.rises(1, 0));
    }

    // Promise 12

    private void take() {
        Log x = new Log();
        checks.dueThrows("take() of no text", x, STATE, log -> log.take());
        due("take()", write(x, "a 1").take(), 0);
        due("the text is kept", x.errorPosition(), NONE);
        due("take() again", x.take(), 0);
        due("its length", x.clearText(), 3);
        due("other blanks", write(x, "a  1").take(), 1);
        due("another word", write(x, "b 1").take(), 2);
        due("another sign", write(x, "a:1").take(), 3);
        due("another sign still", write(x, "a=1").take(), 4);
        due("fewer pieces", write(x, "a ").take(), 5);
        due("more pieces", write(x, "a 1 ").take(), 6);
        due("a longer word", write(x, "aa 1").take(), 7);
        due("a word where a number was", write(x, "a b").take(), 8);
        due("a number where a word was", write(x, "1 1").take(), 9);
        due("another number", write(x, "a 999999").take(), 0);
        write(x, "A");
        checks.dueThrows("take() of no line", x, STATE, log -> log.take());
        write(x, "1234567");
        checks.dueThrows("take() of seven digits", x, STATE, log -> log.take());

        Log y = fullOfTemplates();
        write(y, "m");
        checks.dueThrows("take() with 12 templates", y, STATE, log -> log.take());
        due("take() of a line that fits one of 12", write(y, "l").take(), 11);

        Log z = fullOfLines();
        checks.dueThrows("take() with 24 lines", z, STATE, log -> log.take());
        z.remove(3);
        due("take() when one has gone", z.take(), 0);
        due("24 lines", z.about(0), 24);
    }

    private void takeGetsFirstFit() {
        Log x = log("a x", "b x", "b y");
        x.open(1, 0);
        x.open(0, 0);
        due("the first of two that fit", write(x, "b x").take(), 0);
        due("a slot takes any word", write(x, "zzz x").take(), 0);
        due("a slot takes no number", write(x, "1 x").take(), 3);
        due("a line in the template it had", x.line(1, 0), 1);
        due("fixed words must be the same", write(x, "b y").take(), 2);
    }

    // Promise 13

    private void again() {
        Log x = log("a 1", "b 2");
        due("again(1)", x.again(1), 2);
        due("again(0)", x.again(0), 3);
        dueText("templates", templatesOf(x), "0 1 1 0");
        dueText("the line", Told.line(x, 3), "a 1");
        due("the text stays", x.clearText(), 3);
        x.open(0, 0);
        due("again(1) when template 0 has a slot", x.again(1), 4);
        dueText("the first that it fits", templatesOf(x), "0 1 1 0 0");
        for (int i : new int[] {-1, 5, Integer.MIN_VALUE, Integer.MAX_VALUE}) {
            checks.dueThrows("again(" + i + ")", x, INDEX, log -> log.again(i));
        }
        Log y = fullOfLines();
        checks.dueThrows("again(0) with 24 lines", y, STATE, log -> log.again(0));
        checks.dueThrows("again(24) with 24 lines", y, INDEX, log -> log.again(24));
        due("undo() does not count the refused calls", y.undo(), 13);
        Log z = fullOfTemplates();
        due("again(11) with 12 templates", z.again(11), 12);
    }

    // Promise 14

    private void remove() {
        Log x = log("a 1", "b 1", "c 1", "b 2");
        due("remove(1)", x.remove(1), 3);
        dueText("templates", templatesOf(x), "0 2 1");
        due("remove(0)", x.remove(0), 2);
        dueText("templates behind it", templatesOf(x), "1 0");
        dueText("line 0", Told.line(x, 0), "c 1");
        dueText("line 1", Told.line(x, 1), "b 2");
        for (int i : new int[] {-1, 2, 24, Integer.MIN_VALUE, Integer.MAX_VALUE}) {
            checks.dueThrows("remove(" + i + ")", x, INDEX, log -> log.remove(i));
        }
        due("remove(1)", x.remove(1), 1);
        due("remove(0)", x.remove(0), 0);
        checks.dueThrows("remove(0) of no line", x, INDEX, log -> log.remove(0));

        Log y = log("a x", "b x", "c x");
        y.learn();
        y.remove(0);
        dueText("a slot stays when its first line goes", templatesOf(y), "0 1");
        dueText("its kinds", kindsOf(y, 0), "410");
        due("lines keep their templates", y.remove(0), 1);
        dueText("the last one", kindsOf(y, 0), "010");

        Log z = fullOfLines();
        due("remove(23) of 24", z.remove(23), 1);
        due("lines then", z.about(0), 23);
    }

    // Promise 15

    private void learn() {
        Log x = log("get a 1", "put a 1", "get b 1", "get a 2", "put b 3");
        due("templates", x.about(1), 4);
        due("the first pair", x.learn(), 1);
        dueText("kinds", kindsOf(x, 0), "41013");
        dueText("templates", templatesOf(x), "0 0 1 0 2");
        due("the next pair", x.learn(), 102);
        dueText("templates", templatesOf(x), "0 0 1 0 1");
        due("two slots against a fixed word and a slot", x.learn(), 1);
        dueText("kinds", kindsOf(x, 0), "41413");
        due("nothing to learn", x.learn(), NONE);
        due("about(1)", x.about(1), 1);
        due("learn() is an action even then", x.undo(), 8);
        due("undo() of the last that learned", x.undo(), 7);
        dueText("templates", templatesOf(x), "0 0 1 0 1");
    }

    private void learnPairs() {
        due("two words differ", log("a b", "c d").learn(), NONE);
        due("blanks differ", log("a b", "a  b").learn(), NONE);
        due("signs differ", log("a:b", "a=b").learn(), NONE);
        due("a number and a word", log("a 1", "a b").learn(), NONE);
        due("another number of pieces", log("a ", "a b").learn(), NONE);
        due("a word and blanks differ", log("a  b", "b b").learn(), NONE);
        due("the first of three", log("a 1", "x", "b 1", "y").learn(), 2);
        due("the smallest t, then the smallest u", log("a", "p q", "p r", "b").learn(), 3);
        due("far behind", log("a 1", ":", "=", " ", "b 1").learn(), 4);
        due("word slots only at words", log("1", "2").learn(), NONE);
        Log x = log("a b", "c d");
        x.open(0, 0);
        due("a slot and a word, and two words", x.learn(), NONE);
        x.open(1, 0);
        due("slots alike, and two words", x.learn(), 1);
        dueText("kinds", kindsOf(x, 0), "414");
        Log y = log("a b", "a c");
        y.open(0, 2);
        due("a slot and a word", y.learn(), 1);
        dueText("kinds", kindsOf(y, 0), "014");
        Log z = log("a b", "a c");
        z.open(1, 2);
        due("a word and a slot", z.learn(), 1);
        dueText("kinds", kindsOf(z, 0), "014");
        Log same = log("a b", "c b");
        same.open(0, 0);
        same.open(1, 0);
        due("two templates wholly alike", same.learn(), 1);
        dueText("no other slot comes", kindsOf(same, 0), "410");
        dueText("templates", templatesOf(same), "0 0");
        due("eleven with one before", fullOfTemplates().learn(), 1);
    }

    // Promise 16

    private void learnAll() {
        Log x = log("get a", "put a", "get b", "put b", "get a 1", "del a 1", ":");
        due("learnAll()", x.learnAll(), 3);
        dueText("templates", templatesOf(x), "0 0 0 0 1 1 2");
        dueText("kinds", kindsOf(x, 0), "414");
        dueText("kinds of the next", kindsOf(x, 1), "41013");
        due("learnAll() with nothing to learn", x.learnAll(), 3);
        due("each call is one action", x.undo(), 8);
        due("undo() of all that was learned", x.undo(), 7);
        due("about(1)", x.about(1), 7);
        due("twelve become one", fullOfTemplates().learnAll(), 1);
        due("of no lines", new Log().learnAll(), 0);
        due("none alike", log("a", "1", ":", " ").learnAll(), 4);
    }

    // Promise 17

    private void open() {
        Log x = log("get a=1", "get b=1", "get a=2");
        due("open(0, 0)", x.open(0, 0), 5);
        dueText("kinds", kindsOf(x, 0), "41023");
        dueText("others stay", kindsOf(x, 1), "01023");
        dueText("templates stay", templatesOf(x), "0 1 0");
        due("open(0, 2)", x.open(0, 2), 5);
        dueText("lines stay, though they fit another", templatesOf(x), "0 1 0");
        for (int p : new int[] {0, 1, 3, 4}) {
            checks.dueThrows("open(0, " + p + ")", x, STATE, log -> log.open(0, p));
        }
        for (int i : new int[] {-1, 5, 12, Integer.MIN_VALUE, Integer.MAX_VALUE}) {
            checks.dueThrows("open(0, " + i + ")", x, INDEX, log -> log.open(0, i));
            checks.dueThrows("open(" + i + ", 0)", x, INDEX, log -> log.open(i, 0));
        }
        checks.dueThrows("open(2, 0)", x, INDEX, log -> log.open(2, 0));
        due("undo() of open", x.undo(), 4);
        dueText("kinds", kindsOf(x, 0), "41023");
    }

    // Promise 18

    private void forget() {
        Log x = log("get a", "put a", "get b", "put a", "get b 1");
        x.learnAll();
        dueText("learnt", templatesOf(x), "0 0 1 0 2");
        due("forget()", x.forget(), 4);
        dueText("anew", templatesOf(x), "0 1 2 1 3");
        dueText("kinds", kindsOf(x, 0), "010");
        due("undo() of forget", x.undo(), 6);
        dueText("learnt again", templatesOf(x), "0 0 1 0 2");
        due("forget() of no lines", new Log().forget(), 0);

        Log order = log("b", "a", "c", "a");
        order.remove(0);
        order.open(1, 0);
        order.again(0);
        dueText("templates", templatesOf(order), "0 1 0 0");
        due("forget()", order.forget(), 2);
        dueText("in the order of lines", templatesOf(order), "0 1 0 0");

        Log y = fullOfTemplates();
        y.learn();
        due("a thirteenth word fits the slot", write(y, "m").take(), 0);
        checks.dueThrows("forget() with 13", y, STATE, log -> log.forget());
        due("nothing is remembered for it", y.undo(), 13);
        due("forget() with 12", y.forget(), 12);
    }

    // Promise 19

    private void undo() {
        Log x = new Log();
        checks.dueThrows("undo() of nothing", x, STATE, log -> log.undo());
        write(x, "a");
        for (int i = 0; i < 16; i++) {
            x.take();
        }
        for (int left = 13; left >= 0; left--) {
            due("undo()", x.undo(), left);
            due("lines then", x.about(0), 2 + left);
        }
        checks.dueThrows("undo() when all is taken back", x, STATE, log -> log.undo());
        due("the text stays", x.clearText(), 1);
        x.again(0);
        due("undo() after a new action", x.undo(), 0);

        Log y = log("a", "b");
        y.undo();
        write(y, "c").take();
        due("undo() is none", y.undo(), 1);
        dueText("line 0", Told.line(y, 0), "a");
        due("undo()", y.undo(), 0);
        due("no lines", y.about(0), 0);

        Log exact = new Log();
        write(exact, "a");
        for (int i = 0; i < 14; i++) {
            exact.take();
        }
        for (int left = 13; left >= 0; left--) {
            exact.undo();
        }
        due("14 states are remembered", exact.about(0), 0);
    }

    // Promise 20

    private void which() {
        Log x = log("get a", "put a", "get 1");
        due("which() of the last", x.which(), 2);
        due("which()", write(x, "put a").which(), 1);
        due("which() with another number", write(x, "get 77").which(), 2);
        due("which() of no template", write(x, "del a").which(), NONE);
        due("which() of no line", write(x, "get A").which(), NONE);
        due("which() of no text", write(x, "").which(), NONE);
        due("which() of seven digits", write(x, "get 1234567").which(), NONE);
        x.open(0, 0);
        due("the first of two", write(x, "put a").which(), 0);
        due("which() of a new log", write(new Log(), "a").which(), NONE);
    }

    // Promise 21

    private void wouldCost() {
        Log x = log("a 10", "b 10", "a 12");
        dueCost(x, "a 14", 2);
        dueCost(x, "a 15", 3);
        dueCost(x, "a 014", 4);
        dueCost(x, "b 10", 2);
        dueCost(x, "c 10=123456", 9);
        dueCost(x, "c", 1);
        dueCost(x, "", NONE);
        dueCost(x, "a 1234567", NONE);
        dueCost(x, "A", NONE);
        x.open(0, 0);
        dueCost(x, "b 14", 3);
        dueCost(x, "a 14", 3);
        dueCost(x, "delete 9", 8);
        Log full = fullOfLines();
        due("wouldCost() with 24 lines", full.wouldCost(), 2);
        due("wouldCost() of a new template with 24 lines", write(full, "b 22").wouldCost(), 3);
        Log twelve = fullOfTemplates();
        due("wouldCost() with 12 templates", write(twelve, "m 123").wouldCost(), 4);
    }

    private void dueCost(Log x, String text, int want) {
        due("wouldCost() of <" + text + ">", write(x, text).wouldCost(), want);
        if (want != NONE) {
            x.take();
            due("the cost of <" + text + ">", x.line(x.about(0) - 1, 2), want);
            x.undo();
        }
    }

    // Promise 22

    private void saves() {
        due("saves() of no lines", new Log().saves(), NONE);
        due("saves() with nothing to learn", log("a b", "c d").saves(), NONE);
        // The templates cost 7 and 7, then 5; the lines 3 more each.
        due("saves()", log("get a 1", "put a 1").saves(), 3);
        due("saves() less than 0", log("get", "put", "get", "put").saves(), -3);
        due("saves() of a long one", log("a bcdefghijklm", "b bcdefghijklm").saves(), 12);
        Log x = log("get a 10", "put a 11", "get a 11", "put a 11");
        int before = x.about(3) + x.about(4);
        int saved = x.saves();
        x.learn();
        due("saves() is what learn() saves", saved, before - x.about(3) - x.about(4));
        due("saves() is no action", x.undo(), 4);
    }

    // Promise 23

    private void next() {
        dueNext("one line", "a 7=", "a 7=");
        dueNext("two lines", "a 9=1", "a 7=1", "a 8=1");
        dueNext("as many digits", "a 010", "a 008", "a 009");
        dueNext("more digits", "a 10", "a 8", "a 9");
        dueNext("three digits", "a 100", "a 98", "a 99");
        dueNext("six digits", "a 100000", "a 99998", "a 99999");
        dueNext("digits of the last line", "a 013", "a 9", "a 011");
        dueNext("below 0", "a 00", "a 5", "a 02");
        dueNext("0", "a 0", "a 6", "a 3");
        dueNext("seven digits", "a 000001:x", "a 1:x", "a 500001:x");
        dueNext("the lowest six", "999998", "0", "999999");
        dueNext("two numbers", "12 8", "10 10", "11 9");
        dueNext("no number", "ab  cd", "ab  cd");
        Log x = log("a 1", "b 5", "a 2");
        dueText("another template", Told.next(x, 1), "b 5");
        x.learn();
        dueText("its last line, and the one before it", Told.next(x, 0), "a 0");
        due("behind it", x.next(0, 3), NONE);
        due("far behind it", x.next(0, Integer.MAX_VALUE), NONE);
        String forty = "abcdefghij klmnopqrst uvwxyzabcd efghi 5";
        Log y = log(forty);
        write(y, forty.replace('5', '9')).take();
        dueText("a line of 41 characters", Told.next(y, 0), forty.replace("5", "13"));
        for (int t : new int[] {-1, 1, Integer.MIN_VALUE, Integer.MAX_VALUE}) {
            checks.dueThrows("next(" + t + ", 0)", x, INDEX, log -> log.next(t, 0));
            checks.dueThrows("next(" + t + ", -1)", x, INDEX, log -> log.next(t, -1));
        }
        checks.dueThrows("next(0, -1)", x, ARGUMENT, log -> log.next(0, -1));
        checks.dueThrows("next(0, least)", x, ARGUMENT, log -> log.next(0, Integer.MIN_VALUE));
    }

    private void dueNext(String what, String want, String... lines) {
        dueText("next line, " + what, Told.next(log(lines), 0), want);
    }

    // Promise 24

    private void withValue() {
        Log x = log("7 7", "a 07", "a 8=7", "17", "seven", "999999", "0:000");
        due("withValue(7)", x.withValue(7), 3);
        due("withValue(8)", x.withValue(8), 1);
        due("withValue(17)", x.withValue(17), 1);
        due("withValue(1)", x.withValue(1), 0);
        due("withValue(0)", x.withValue(0), 1);
        due("withValue(999999)", x.withValue(999999), 1);
        for (int v : new int[] {-1, 1000000, NONE, Integer.MIN_VALUE, Integer.MAX_VALUE}) {
            checks.dueThrows("withValue(" + v + ")", x, ARGUMENT, log -> log.withValue(v));
        }
        due("withValue(0) of no lines", new Log().withValue(0), 0);
    }

    // Promise 25

    private void runScript() {
        Log x = log("get a 1", "put a 2", "get a 3");
        String before = Told.sums(x);
        due("again, again, and their templates", x.runScript(4, 1010102090319040L), NONE);
        due("a line that does not exist yet", x.runScript(4, 9030102090319040L), 0);
        due("remove, then no line 2", x.runScript(2, 20001020), 1);
        due("remove, then a template that got a smaller number", x.runScript(3, 201030007001L), 1);
        due("remove, then line 1", x.runScript(2, 20109010), NONE);
        due("learn, then nothing to learn", x.runScript(2, 30003000), 1);
        due("learn, then at most one template", x.runScript(2, 30007001), NONE);
        due("at most one template", x.runScript(1, 7001), 0);
        due("at most two templates", x.runScript(1, 7002), NONE);
        due("learnAll twice", x.runScript(3, 400040007001L), NONE);
        due("open, then line 1 fits template 0 too", x.runScript(3, 500010109030L), NONE);
        due("open what is open", x.runScript(2, 50005000), 1);
        due("learn, forget, at most one template", x.runScript(3, 300060007001L), 2);
        due("leading zeros are a group that fails", x.runScript(2, 7002), 0);
        due("0", x.runScript(4, 0), 0);
        // The lines cost 2 each, the templates 7 each.
        due("all costs", x.runScript(1, 8020), NONE);
        due("all costs, one less", x.runScript(1, 8019), 0);
        checks.dueTrue("runScript() changed something", Told.sums(x).equals(before));
        due("runScript() is no action", x.undo(), 2);

        Log full = fullOfLines();
        due("again with 24 lines", full.runScript(1, 1000), 0);
        due("remove, again, again", full.runScript(3, 200010001000L), 2);
        Log thirteen = fullOfTemplates();
        thirteen.learn();
        write(thirteen, "m").take();
        due("forget with 13", thirteen.runScript(1, 6000), 0);
        due("forget with 12", thirteen.runScript(2, 21206000), NONE);
        for (int n : new int[] {0, 5, -1, Integer.MIN_VALUE, Integer.MAX_VALUE}) {
            checks.dueThrows("runScript(" + n + ", 0)", x, ARGUMENT, log -> log.runScript(n, 0));
        }
        long[] tooLong = {10000L, 100000000L, 1000000000000L, 10000000000000000L};
        for (int i = 0; i < 4; i++) {
            int n = i + 1;
            long script = tooLong[i];
            checks.dueThrows("runScript(" + n + ", " + script + ")", x, ARGUMENT, log -> log.runScript(n, script));
            due("runScript(" + n + ", " + (script - 1) + ")", x.runScript(n, script - 1), 0);
            checks.dueThrows("runScript(" + n + ", -1)", x, ARGUMENT, log -> log.runScript(n, -1));
        }
        checks.dueThrows("the longest", x, ARGUMENT, log -> log.runScript(4, Long.MAX_VALUE));
        checks.dueThrows("the least", x, ARGUMENT, log -> log.runScript(4, Long.MIN_VALUE));
    }

    private void runScriptGroups() {
        Log x = log("get a 1", "put a 2", "get a 3");
        int[] failing = {0, 1, 10, 999, 1001, 1030, 1240, 1990, 2001, 2030, 3001, 3010, 3100, 4001, 4010, 4100, 5001,
            5010, 5040, 5050, 5090, 5200, 5900, 6001, 6010, 6100, 7000, 7001, 7100, 7102, 7902, 8000, 8019, 9001,
            9010, 9030, 9990, 9009};
        for (int group : failing) {
            due("runScript(1, " + group + ")", x.runScript(1, group), 0);
        }
        int[] succeeding = {1000, 1010, 1020, 2000, 2020, 3000, 4000, 5000, 5020, 5100, 5120, 6000, 7002, 7012, 7099,
            8020, 8021, 8999, 9000, 9011, 9020};
        for (int group : succeeding) {
            due("runScript(1, " + group + ")", x.runScript(1, group), NONE);
        }
        Log y = fullOfLines();
        due("line 23", y.runScript(1, 9230), NONE);
        due("remove line 23", y.runScript(1, 2230), NONE);
        due("no line 24", y.runScript(1, 9240), 0);
        due("again of line 22", y.runScript(2, 22301220), NONE);
    }

    // Promise 26

    private void simulate() {
        Log x = log("aa 1=m", "get 10");
        String before = Told.sums(x);
        NaiveLog naive = new NaiveLog();
        for (String line : new String[] {"aa 1=m", "get 10"}) {
            naive.clearText();
            line.chars().forEach(c -> naive.append(c));
            naive.take();
        }
        long[] seeds = {0, 1, -1, 9, 77, 123456789L, Long.MAX_VALUE, Long.MIN_VALUE, 0x5DEECE66DL};
        for (long seed : seeds) {
            for (int m = 1; m <= 30; m++) {
                due("simulate(" + seed + ", " + m + ")", x.simulate(seed, m), naive.simulate(seed, m));
            }
        }
        checks.dueTrue("simulate() changed something", Told.sums(x).equals(before));
        due("simulate() is no action", x.undo(), 1);
        for (int m : new int[] {0, 31, -1, Integer.MIN_VALUE, Integer.MAX_VALUE}) {
            checks.dueThrows("simulate(1, " + m + ")", x, ARGUMENT, log -> log.simulate(1, m));
        }
        simulateFromNothing();
        simulateByHand();
    }

    private void simulateFromNothing() {
        Log x = new Log();
        NaiveLog naive = new NaiveLog();
        for (long seed = 0; seed < 300; seed++) {
            due("simulate(" + seed + ", 30)", x.simulate(seed, 30), naive.simulate(seed, 30));
            Log y = log(simulatedLine(seed));
            due("the line of " + seed + " has the template of its like", y.simulate(seed, 1) / 1000, 1);
        }
    }

    private static String simulatedLine(long seed) {
        int r = (int) (seed * 6364136223846793005L + 1442695040888963407L >>> 33);
        char first = "abc".charAt(r / 4 % 3);
        String line = "" + first + first + " " + (7 + r % 3) + "=:::".charAt(r / 16 % 4) + "mnopq".charAt(r / 64 % 5);
        return r / 32768 % 2 == 0 ? line + " " + r / 512 % 50 : line;
    }

    private void simulateByHand() {
        Log x = new Log();
        // From 0 the first x is 1442695040888963407 and r is 167951807: the line "cc 9:n" costs 2, its template 6.
        due("simulate(0, 1)", x.simulate(0, 1), 1008);
        Log full = fullOfLines();
        due("all lines are left out", full.simulate(5, 30), 1000 + full.about(3) + full.about(4));
        Log twelve = fullOfTemplates();
        due("a line is left out, and all is learnt", twelve.simulate(5, 1), 1000 + 24 + 1);
        Log dear = log("abcdefghijklmnopqrstuvwxyzabcdefghijklmn");
        due("costs", dear.simulate(0, 1) % 1000, 41 + 8);
    }

    // Promise 27

    private void save() {
        Log x = log("get a", "put a");
        due("save(0)", x.save(0), 2);
        due("save() is no action", x.undo(), 1);
        due("save(1)", x.save(1), 1);
        due("save(0) once more", x.save(0), 1);
        for (int slot : new int[] {-1, 2, Integer.MIN_VALUE, Integer.MAX_VALUE}) {
            checks.dueThrows("save(" + slot + ")", x, INDEX, log -> log.save(slot));
        }
        due("save(0) of no lines", new Log().save(0), 0);
    }

    // Promise 28

    private void restore() {
        Log x = log("get a", "put a", "get b");
        x.learn();
        String saved = Told.lines(x) + Told.templates(x);
        x.save(1);
        checks.dueThrows("restore(0) when only slot 1 is saved", x, STATE, log -> log.restore(0));
        due("nothing was forgotten", x.undo(), 3);
        x.learnAll();
        x.remove(0);
        x.again(0);
        write(x, "z 1");
        due("restore(1)", x.restore(1), 3);
        due("the text stays", x.clearText(), 3);
        write(x, "get b");
        checks.dueTrue("the state is not the saved one", saved.equals(Told.lines(x) + Told.templates(x)));
        checks.dueThrows("undo() after restore", x, STATE, log -> log.undo());
        x.open(0, 2);
        due("only later actions are remembered", x.undo(), 0);
        x.remove(0);
        due("the slot keeps it", x.restore(1), 3);
        checks.dueTrue("the second time it is not the saved one", saved.equals(Told.lines(x) + Told.templates(x)));
        for (int slot : new int[] {-1, 2, Integer.MIN_VALUE, Integer.MAX_VALUE}) {
            checks.dueThrows("restore(" + slot + ")", x, INDEX, log -> log.restore(slot));
        }
        Log y = log("a");
        y.save(0);
        write(y, "b").take();
        y.save(1);
        due("undo() does not touch the slots", y.undo(), 1);
        due("restore(1)", y.restore(1), 2);
        due("restore(0)", y.restore(0), 1);
        Log none = new Log();
        none.save(0);
        write(none, "a").take();
        due("restore(0) of no lines", none.restore(0), 0);
        due("no templates", none.about(1), 0);
    }
}
