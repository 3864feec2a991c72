/** The boundaries that promises 12 to 19, the actions, and the terms of templates and of undo name. */
public final class ActionBoundaries {
    private static final int NONE = Log.NONE;
    private static final int LEAST = Integer.MIN_VALUE;
    private static final int MOST = Integer.MAX_VALUE;
    private static final Class<IllegalStateException> STATE = IllegalStateException.class;
    private static final Class<IndexOutOfBoundsException> INDEX = IndexOutOfBoundsException.class;
    private static final String FIRST = "If several exceptions apply to a call, the one that its description names "
            + "first is thrown.";

    private final Sentences tests = new Sentences("ActionBoundaries");

    public static void main(String[] args) {
        ActionBoundaries all = new ActionBoundaries();
        all.takeOfNoLine();
        all.takeOfTooMany();
        all.takeFits();
        all.takeOfNewTemplates();
        all.again();
        all.remove();
        all.removeTemplates();
        all.learn();
        all.learnDifferences();
        all.learnMoves();
        all.learnAll();
        all.open();
        all.openPieces();
        all.forget();
        all.forgetOrder();
        all.undo();
        all.undoOfMany();
        all.undoOfEach();
        all.undoOfMuch();
        all.undoOfRefused();
        all.tests.close();
    }

    // Promise 12

    private void takeOfNoLine() {
        tests.sentence(12, "IllegalStateException if the text is not a line");
        String[] texts = {"", "get c?", "?", "1234567", "get 1234567", "a".repeat(41), "a".repeat(50),
            "a:b:c:d:e:f:g", "get\0a 1"};
        for (String text : texts) {
            tests.refuses("take() of <" + text + ">", () -> Logs.worn().write(text), STATE, x -> x.take());
        }
        for (String text : new String[] {"a", "get a 7", "123456", "a".repeat(40), "a:b:c:d:e:f:"}) {
            tests.answers("lines behind take() of <" + text + ">", () -> Logs.worn().write(text),
                    x -> x.take() * 0 + x.about(0), 4);
        }
        tests.sentence(12, "Keeps the text.");
        Log log = new Log().write("a 12");
        tests.due("take()", log.take(), 0);
        tests.due("take() once more", log.take(), 0);
        tests.due("append() then", log.append('3'), 5);
        tests.due("take() then", log.take(), 0);
        tests.dueText("the last line", Told.line(log, 2), "a 123");
        tests.dueText("the line before it", Told.line(log, 1), "a 12");
    }

    private void takeOfTooMany() {
        tests.sentence(12, "IllegalStateException if ... there are 24 lines");
        tests.answers("take() with 22 lines", () -> Logs.ofLines(22), x -> x.take(), 0);
        tests.answers("take() with 23 lines", () -> Logs.ofLines(23), x -> x.take(), 0);
        tests.answers("lines then", () -> Logs.ofLines(23), x -> x.take() + x.about(0), 24);
        tests.answers("take() of a new template with 23 lines", () -> Logs.ofLines(23).write("b"), x -> x.take(), 1);
        tests.refuses("take() with 24 lines", () -> Logs.ofLines(24), STATE, x -> x.take());
        tests.refuses("take() of a new template with 24 lines", () -> Logs.ofLines(24).write("b"), STATE,
                x -> x.take());
        tests.refuses("take() of no line with 24 lines", () -> Logs.ofLines(24).write("?"), STATE, x -> x.take());
        tests.answers("take() when one of 24 lines has gone", () -> Logs.ofLines(24), x -> x.remove(0) + x.take(), 1);

        tests.sentence(12, "IllegalStateException if ... it needs a new template and there are 12");
        tests.answers("take() with 11 templates", () -> Logs.ofElevenTemplates().write("l"), x -> x.take(), 11);
        tests.answers("templates then", () -> Logs.ofElevenTemplates().write("l"), x -> x.take() + x.about(1), 23);
        tests.refuses("take() with 12 templates", () -> Logs.ofTwelveTemplates().write("m"), STATE, x -> x.take());
        tests.refuses("take() of more pieces with 12", () -> Logs.ofTwelveTemplates().write("a 1"), STATE,
                x -> x.take());
        tests.answers("take() that fits the first of 12", () -> Logs.ofTwelveTemplates().write("a"), x -> x.take(), 0);
        tests.answers("take() that fits the last of 12", Logs::ofTwelveTemplates, x -> x.take(), 11);
        tests.answers("take() of a number with 12", () -> Logs.ofTwelveUnlike().write("77"), x -> x.take(), 1);
        tests.answers("take() when one of 12 has gone", () -> Logs.ofTwelveTemplates().write("m"),
                x -> x.remove(0) + x.take(), 11 + 11);
        tests.refuses("take() with 24 lines and 12 templates", () -> Logs.ofTwelveTemplates().repeat(0, 12).write("m"),
                STATE, x -> x.take());
        tests.refuses("take() of the last of 12 with 24 lines", () -> Logs.ofTwelveTemplates().repeat(0, 12), STATE,
                x -> x.take());
    }

    private void takeFits() {
        tests.sentence(12, "A line fits a template if it has as many pieces, and each of them is alike");
        Sentences.Maker one = () -> Log.of("ab  7:cd");
        String[] fitting = {"ab  7:cd", "ab  0:cd", "ab  999999:cd", "ab  000007:cd"};
        String[] other = {"ab  7:cd ", "ab  7:", "ab  7", "ab 7:cd", "ab   7:cd", "ab  7=cd", "ac  7:cd", "a  7:cd",
            "abc  7:cd", "bb  7:cd", "ab  7:ce", "ab  7:c", "ab  x:cd", "12  7:cd", "ab  7:12", "ab  7::cd",
            " ab  7:cd", "ab::7:cd", "ab  7 cd"};
        for (String text : fitting) {
            tests.answers("take() of <" + text + ">", () -> one.make().write(text), x -> x.take(), 0);
            tests.answers("which() of <" + text + ">", () -> one.make().write(text), x -> x.which(), 0);
        }
        for (String text : other) {
            tests.answers("take() of <" + text + ">", () -> one.make().write(text), x -> x.take(), 1);
            tests.answers("which() of <" + text + ">", () -> one.make().write(text), x -> x.which(), NONE);
        }
        Sentences.Maker opened = () -> {
            Log log = one.make();
            log.open(0, 0);
            return log;
        };
        for (String text : new String[] {"ab  7:cd", "x  7:cd", "abcdefgh  12:cd"}) {
            tests.answers("take() of <" + text + "> at a slot", () -> opened.make().write(text), x -> x.take(), 0);
        }
        for (String text : new String[] {"1  7:cd", "   7:cd", ":  7:cd", "x  7:c", "x  y:cd", "x  7:cd ", "x 7:cd"}) {
            tests.answers("take() of <" + text + "> at a slot", () -> opened.make().write(text), x -> x.take(), 1);
        }
    }

    private void takeOfNewTemplates() {
        tests.sentence(12, "if there is none, a new one, with slots for all numbers of the line, and all other pieces");
        tests.dueText("kinds of a new template", Told.kinds(Log.of("1a 2:b=3"), 0), "30132023");
        Log log = Log.of("get a", "get b");
        log.learn();
        log.write("get 1").take();
        log.write("get a c").take();
        tests.dueText("a new one beside learned ones", Told.kinds(log, 1), "013");
        tests.dueText("one more", Told.kinds(log, 2), "01010");
        Log reused = Log.of("a", "b");
        reused.open(1, 0);
        reused.remove(1);
        reused.write("c").take();
        tests.dueText("a new one where one with a slot has gone", Told.kinds(reused, 1), "0");

        tests.sentence(12, "it gets the first template that it fits");
        Log first = Log.of("a x", "b x", "a y");
        first.open(2, 0);
        first.open(1, 0);
        tests.due("take() of the first and the second", first.write("a x").take(), 0);
        tests.due("take() of the second alone", first.write("c x").take(), 1);
        tests.due("take() of the third alone", first.write("c y").take(), 2);
        first.open(1, 2);
        tests.due("take() of the second and the third", first.write("a y").take(), 1);
        first.open(0, 0);
        tests.due("take() of the first now", first.write("c x").take(), 0);
        tests.dueText("templates", Told.templatesOfLines(first), "0 1 2 0 1 2 1 0");
    }

    // Promise 13

    private void again() {
        tests.sentence(13, "IndexOutOfBoundsException if there is no such line");
        tests.answers("again(0) of 3", Logs::worn, x -> x.again(0), 3);
        tests.answers("again(2) of 3", Logs::worn, x -> x.again(2), 3);
        for (int i : new int[] {-1, 3, 4, 24, LEAST, MOST}) {
            tests.refuses("again(" + i + ") of 3", Logs::worn, INDEX, x -> x.again(i));
        }

        tests.sentence(13, "IllegalStateException if there are 24 lines");
        tests.answers("again(0) of 1", () -> Logs.ofLines(1), x -> x.again(0), 1);
        tests.answers("again(21) of 22", () -> Logs.ofLines(22), x -> x.again(21), 22);
        tests.answers("again(22) of 23", () -> Logs.ofLines(23), x -> x.again(22), 23);
        tests.answers("lines then", () -> Logs.ofLines(23), x -> x.again(22) + x.about(0), 23 + 24);
        tests.refuses("again(0) of 24", () -> Logs.ofLines(24), STATE, x -> x.again(0));
        tests.refuses("again(23) of 24", () -> Logs.ofLines(24), STATE, x -> x.again(23));
        tests.answers("again(11) of 12 templates", Logs::ofTwelveTemplates, x -> x.again(11), 12);

        tests.sentence(13, FIRST);
        tests.refuses("again(24) of 24", () -> Logs.ofLines(24), INDEX, x -> x.again(24));
        tests.refuses("again(-1) of 24", () -> Logs.ofLines(24), INDEX, x -> x.again(-1));

        tests.sentence(13, "it gets the first template that it fits, perhaps another one than the line i has");
        Log log = Log.of("a 1", "b 2", "b 3");
        log.again(1);
        log.open(0, 0);
        log.again(2);
        log.again(0);
        tests.dueText("templates", Told.templatesOfLines(log), "0 1 1 1 0 0");
        tests.dueText("the line", Told.line(log, 4), "b 3");
        tests.same("again(0), and take() of the same text", Logs::worn, x -> x.again(0),
                x -> x.write("get a 1").take() + x.write("get c?").calls());
    }

    // Promise 14

    private void remove() {
        tests.sentence(14, "IndexOutOfBoundsException if there is no such line");
        for (int i = 0; i < 3; i++) {
            int line = i;
            tests.answers("remove(" + i + ") of 3", Logs::worn, x -> x.remove(line), i == 1 ? 1 : 2);
        }
        for (int i : new int[] {-1, 3, 4, 24, LEAST, MOST}) {
            tests.refuses("remove(" + i + ") of 3", Logs::worn, INDEX, x -> x.remove(i));
        }
        tests.answers("remove(0) of 1", () -> Log.of("a"), x -> x.remove(0), 0);
        tests.refuses("remove(1) of 1", () -> Log.of("a"), INDEX, x -> x.remove(1));
        tests.refuses("remove(0) of none", () -> {
            Log log = Log.of("a");
            log.remove(0);
            return log;
        }, INDEX, x -> x.remove(0));
        tests.answers("remove(23) of 24", () -> Logs.ofLines(24), x -> x.remove(23) + x.about(0), 24);
        tests.refuses("remove(24) of 24", () -> Logs.ofLines(24), INDEX, x -> x.remove(24));

        tests.sentence(14, "Removes a line; those behind it get numbers that are smaller by 1.");
        String[] want = {"b|c|d", "a|c|d", "a|b|d", "a|b|c"};
        for (int i = 0; i < 4; i++) {
            Log log = Log.of("a", "b", "c", "d");
            log.remove(i);
            StringBuilder lines = new StringBuilder();
            for (int j = 0; j < 3; j++) {
                lines.append(j == 0 ? "" : "|").append(Told.line(log, j));
            }
            tests.dueText("lines behind remove(" + i + ")", lines.toString(), want[i]);
        }
    }

    private void removeTemplates() {
        tests.sentence(14, "All others keep their templates, as far as these stay. / A template that no line has any "
                + "more goes; those behind it get numbers that are smaller by 1.");
        Log log = Log.of("a", "b", "c", "b", "a", "c");
        tests.due("remove(1), whose template stays", log.remove(1), 3);
        tests.dueText("templates", Told.templatesOfLines(log), "0 2 1 0 2");
        tests.due("remove(2), whose template goes", log.remove(2), 2);
        tests.dueText("templates", Told.templatesOfLines(log), "0 1 0 1");
        tests.due("remove(0)", log.remove(0), 2);
        tests.due("remove(1), the first template's last", log.remove(1), 1);
        tests.dueText("templates", Told.templatesOfLines(log), "0 0");
        tests.due("remove(1)", log.remove(1), 1);
        tests.due("remove(0)", log.remove(0), 0);

        Log first = Logs.ofTwelveTemplates();
        tests.due("remove(0) of 12 templates", first.remove(0), 11);
        tests.dueText("templates", Told.templatesOfLines(first), "0 1 2 3 4 5 6 7 8 9 10");
        Log last = Logs.ofTwelveTemplates();
        tests.due("remove(11) of 12 templates", last.remove(11), 11);
        tests.dueText("templates", Told.templatesOfLines(last), "0 1 2 3 4 5 6 7 8 9 10");
        tests.due("the new twelfth", last.write("m").take(), 11);

        Log fitting = Log.of("a", "b", "b");
        fitting.open(0, 0);
        fitting.remove(1);
        tests.dueText("a line keeps its template though it fits the first", Told.templatesOfLines(fitting), "0 1");
        Log open = Log.of("a", "b", "c");
        open.open(1, 0);
        open.remove(0);
        tests.dueText("slots move with their template", Told.kinds(open, 0) + Told.kinds(open, 1), "40");
        Log slot = Log.of("a 1", "b 1");
        slot.learn();
        slot.remove(0);
        tests.dueText("a slot stays when one word is left", Told.kinds(slot, 0), "413");
        tests.due("another word fits it", slot.write("c 1").take(), 0);
    }

    // Promise 15

    private void learn() {
        tests.sentence(15, "NONE if there are no such two");
        tests.answers("learn() of a new log", Log::new, x -> x.learn(), NONE);
        tests.answers("learn() of one template", () -> Logs.ofLines(24), x -> x.learn(), NONE);
        tests.answers("learn() of 12 unlike", Logs::ofTwelveUnlike, x -> x.learn(), NONE);
        tests.answers("templates then", Logs::ofTwelveUnlike, x -> x.learn() * 0 + x.about(1), 12);

        tests.sentence(15, "Returns 100 * t + u");
        tests.answers("learn() of 2", () -> Log.of("a", "b"), x -> x.learn(), 1);
        tests.answers("learn() of the last two of 12", () -> Log.of("1", " ", ":", "=", "  ", "   ", "a1", "1a", " 1",
                "1 ", "b", "c"), x -> x.learn(), 1011);
        tests.answers("learn() of the first and the last", () -> Log.of("a", "1", " ", ":", "=", "  ", "   ", "a1",
                "1a", " 1", "1 ", "b"), x -> x.learn(), 11);

        tests.sentence(15, "of all pairs (t, u), with t less than u, the one with the smallest t, then with the "
                + "smallest u");
        tests.answers("pairs (0, 3) and (1, 2)", () -> Log.of("a", "b 1", "c 1", "d"), x -> x.learn(), 3);
        tests.answers("pairs (0, 1), (0, 2), (1, 2)", () -> Log.of("a", "b", "c"), x -> x.learn(), 1);
        tests.answers("pairs (0, 2), (1, 2)", () -> Log.of("a x", "b y", "a y"), x -> x.learn(), 2);
        tests.answers("pairs (1, 2), (0, 2)", () -> Log.of("a x", "b y", "b x"), x -> x.learn(), 2);
        tests.answers("pairs (1, 3), (2, 3)", () -> Log.of("1", "a x", "b y", "a y"), x -> x.learn(), 103);
        tests.answers("pairs (0, 2), (0, 3)", () -> Log.of("a x", "1", "b x", "a y"), x -> x.learn(), 2);
    }

    private void learnDifferences() {
        tests.sentence(15, "Two templates can be learned from, if they have as many pieces, and all of these are alike "
                + "but for one at most");
        dueLearn(1, "ab", "cd");
        dueLearn(1, "ab 1:cd", "ab 2:ce");
        dueLearn(1, "ab 1:cd", "a 2:cd");
        dueLearn(NONE, "ab 1:cd", "a 2:ce");
        dueLearn(NONE, "a", "a ");
        dueLearn(NONE, "a b", "a b c");
        dueLearn(1, "a:b:c:d:e:f:", "b:b:c:d:e:f:");
        dueLearn(1, "a:b:c:d:e:f:", "a:b:c:d:e:g:");
        dueLearn(1, "1a2b3c4d5e6f", "1a2b3c4d5e6g");
        dueLearn(NONE, "1a2b3c4d5e6f", "1x2b3c4d5e6g");

        tests.sentence(15, "at which each of both has a fixed word or a slot for words");
        dueLearn(NONE, "a 1", "a  1");
        dueLearn(NONE, "a:1", "a=1");
        dueLearn(NONE, "a 1", "a b");
        dueLearn(NONE, "a b", "a 1");
        dueLearn(NONE, "a:b", "a b");
        dueLearn(NONE, "a", ":");
        dueLearn(NONE, "a", " ");
        dueLearn(NONE, "a", "1");
        dueLearn(NONE, "1", "a");
        tests.answers("a slot and a fixed word", () -> opened("a b", "a c", 0, 2), x -> x.learn(), 1);
        tests.answers("a fixed word and a slot", () -> opened("a b", "a c", 1, 2), x -> x.learn(), 1);
        tests.answers("a slot for words and one for numbers", () -> opened("a 1", "1 1", 0, 0), x -> x.learn(), NONE);
        tests.answers("a slot for numbers and one for words", () -> opened("1 1", "a 1", 1, 0), x -> x.learn(), NONE);
        tests.answers("a slot and blanks", () -> opened("a", " ", 0, 0), x -> x.learn(), NONE);
        tests.answers("a slot and a sign", () -> opened("a", ":", 0, 0), x -> x.learn(), NONE);
        tests.answers("a slot and a fixed word, and two words", () -> opened("a b", "c d", 0, 0), x -> x.learn(), NONE);
        tests.answers("a slot and its own word, and two words", () -> opened("a b", "a c", 0, 0), x -> x.learn(), NONE);
    }

    private void dueLearn(int want, String... lines) {
        tests.answers("learn() of " + String.join(", ", lines), () -> Log.of(lines), x -> x.learn(), want);
        tests.answers("templates then", () -> Log.of(lines), x -> x.learn() * 0 + x.about(1), want == NONE ? 2 : 1);
    }

    /** Two lines, and piece p of template t is a slot. */
    private static Log opened(String one, String two, int t, int p) {
        Log log = Log.of(one, two);
        log.open(t, p);
        return log;
    }

    private void learnMoves() {
        tests.sentence(15, "The one with the smaller number has a slot for words there then (if there is such a "
                + "piece)");
        Log log = Log.of("ab 1:cd", "ab 2:ce", "ab 3:cf");
        log.learn();
        tests.dueText("kinds", Told.kinds(log, 0), "01324");
        tests.dueText("kinds of the next", Told.kinds(log, 1), "01320");
        Log alike = Log.of("a b", "c b");
        alike.open(0, 0);
        alike.open(1, 0);
        tests.due("learn() of two that are alike", alike.learn(), 1);
        tests.dueText("kinds of two that were alike", Told.kinds(alike, 0), "410");
        tests.dueText("templates", Told.templatesOfLines(alike), "0 0");
        Log word = opened("ab 1", "cd 1", 0, 0);
        word.learn();
        tests.dueText("a slot that a fixed word comes to", Told.kinds(word, 0), "413");
        Log slot = opened("ab 1", "cd 1", 1, 0);
        slot.learn();
        tests.dueText("a fixed word that a slot comes to", Told.kinds(slot, 0), "413");
        Log last = Log.of("a:b:c:d:e:f", "a:b:c:d:e:g");
        last.learn();
        tests.dueText("kinds when the last piece differs", Told.kinds(last, 0), "02020202024");

        tests.sentence(15, "and all lines of the other one have this template; the other one goes");
        Log lines = Log.of("b", "a", "1", "b", "a", "2");
        lines.remove(0);
        lines.again(2);
        lines.again(0);
        tests.dueText("templates before", Told.templatesOfLines(lines), "1 2 0 1 2 0 1");
        tests.due("learn()", lines.learn(), 1);
        tests.dueText("templates", Told.templatesOfLines(lines), "0 1 0 0 1 0 0");
        tests.due("about(1)", lines.about(1), 2);
        Log behind = Log.of("a", "1", "b", " ", "b");
        behind.learn();
        tests.dueText("those behind get smaller numbers", Told.templatesOfLines(behind), "0 1 0 2 0");
    }

    // Promise 16

    private void learnAll() {
        tests.sentence(16, "Learns as long as there are two templates to learn from, again and again.");
        tests.answers("learnAll() of a new log", Log::new, x -> x.learnAll(), 0);
        tests.answers("learnAll() of one template", () -> Log.of("a"), x -> x.learnAll(), 1);
        tests.answers("learnAll() of two", () -> Log.of("a", "b"), x -> x.learnAll(), 1);
        tests.answers("learnAll() of 11", Logs::ofElevenTemplates, x -> x.learnAll(), 1);
        tests.answers("learnAll() of 12", Logs::ofTwelveTemplates, x -> x.learnAll(), 1);
        tests.answers("learnAll() of 12 unlike", Logs::ofTwelveUnlike, x -> x.learnAll(), 12);
        tests.answers("learn() then", Logs::ofTwelveTemplates, x -> x.learnAll() * 0 + x.learn(), NONE);
        tests.same("learnAll() of nothing, and learn() of nothing", Logs::ofTwelveUnlike, x -> x.learnAll(),
                x -> x.learn());
        Log log = Log.of("a x", "b x", "a y", "b y", "c z");
        tests.due("learnAll() of squares", log.learnAll(), 2);
        tests.dueText("templates", Told.templatesOfLines(log), "0 0 0 0 1");
        tests.dueText("kinds", Told.kinds(log, 0), "414");
        tests.due("undo() of it all", log.undo(), 5);
        tests.dueText("templates then", Told.templatesOfLines(log), "0 1 2 3 4");
    }

    // Promise 17

    private void open() {
        tests.sentence(17, "IndexOutOfBoundsException if there is no such template or piece");
        Sentences.Maker two = () -> Log.of("get 1", "a:b:c:d:e:f:", "1a2b3c4d5e6f");
        tests.answers("open(0, 0)", two, x -> x.open(0, 0), 3);
        tests.answers("open(1, 10)", two, x -> x.open(1, 10), 12);
        tests.answers("open(2, 11)", two, x -> x.open(2, 11), 12);
        for (int p : new int[] {-1, 3, 12, 32, LEAST, MOST}) {
            tests.refuses("open(0, " + p + ")", two, INDEX, x -> x.open(0, p));
        }
        for (int p : new int[] {-1, 12, 13, 32, LEAST, MOST}) {
            tests.refuses("open(1, " + p + ")", two, INDEX, x -> x.open(1, p));
        }
        for (int t : new int[] {-1, 3, 12, LEAST, MOST}) {
            tests.refuses("open(" + t + ", 0)", two, INDEX, x -> x.open(t, 0));
        }
        tests.answers("open(11, 0) of 12", Logs::ofTwelveTemplates, x -> x.open(11, 0), 1);
        tests.refuses("open(12, 0) of 12", Logs::ofTwelveTemplates, INDEX, x -> x.open(12, 0));

        tests.sentence(17, "IllegalStateException if the piece is no fixed word");
        Sentences.Maker kinds = () -> {
            Log log = Log.of("ab 1:cd=ef");
            log.open(0, 4);
            return log;
        };
        for (int p : new int[] {1, 2, 3, 4, 5}) {
            tests.refuses("open(0, " + p + ")", kinds, STATE, x -> x.open(0, p));
        }
        tests.answers("open(0, 0)", kinds, x -> x.open(0, 0), 1 + 1 + 1 + 1 + 1 + 1 + 2);
        tests.answers("open(0, 6)", kinds, x -> x.open(0, 6), 2 + 1 + 1 + 1 + 1 + 1 + 1);
        tests.refuses("open(1, 11) at a sign", two, STATE, x -> x.open(1, 11));

        tests.sentence(17, FIRST);
        tests.refuses("open(1, 1) of no such template", kinds, INDEX, x -> x.open(1, 1));
        tests.refuses("open(0, 7) of no such piece", kinds, INDEX, x -> x.open(0, 7));
    }

    private void openPieces() {
        tests.sentence(17, "Makes a fixed word of a template a slot for words. ... Returns the cost of the template "
                + "then.");
        Log forty = Log.of("a".repeat(40));
        tests.due("open(0, 0) of 40 letters", forty.open(0, 0), 1);
        tests.dueText("kinds", Told.kinds(forty, 0), "4");
        Log letters = Log.of("a 1");
        tests.due("open(0, 0) of one letter", letters.open(0, 0), 3);
        tests.dueText("kinds", Told.kinds(letters, 0), "413");

        tests.sentence(17, "(Other templates and their lines stay as they are.)");
        Log log = Log.of("get a", "get b", "put a", "put b");
        log.open(0, 0);
        log.open(0, 2);
        tests.dueText("templates of lines that would fit it", Told.templatesOfLines(log), "0 1 2 3");
        tests.dueText("kinds of another one", Told.kinds(log, 1), "010");
        tests.due("about(1)", log.about(1), 4);
    }

    // Promise 18

    private static Log ofThirteenWords() {
        Log log = Logs.ofTwelveTemplates();
        log.learn();
        log.write("m").take();
        return log;
    }

    private void forget() {
        tests.sentence(18, "IllegalStateException if there would be more than 12");
        tests.answers("forget() of no lines", Log::new, x -> x.forget(), 0);
        tests.answers("forget() of one", () -> Log.of("a"), x -> x.forget(), 1);
        tests.answers("forget() of 11", Logs::ofElevenTemplates, x -> x.forget(), 11);
        tests.answers("forget() of 12", Logs::ofTwelveTemplates, x -> x.forget(), 12);
        tests.answers("forget() of 12 in 24 lines", () -> Logs.ofTwelveTemplates().repeat(11, 12), x -> x.forget(), 12);
        tests.refuses("forget() with 13", ActionBoundaries::ofThirteenWords, STATE, x -> x.forget());
        tests.answers("forget() when one of 13 has gone", ActionBoundaries::ofThirteenWords,
                x -> x.remove(5) + x.forget(), 10 + 12);
        tests.refuses("forget() with 24", ActionBoundaries::ofManyWords, STATE, x -> x.forget());
    }

    private static Log ofManyWords() {
        Log log = Log.of("a");
        log.open(0, 0);
        for (int i = 1; i < 24; i++) {
            log.write("" + (char) ('a' + i)).take();
        }
        return log;
    }

    private void forgetOrder() {
        tests.sentence(18, "all templates go, and the lines are taken once more, in their order");
        Log log = Log.of("a", "b", "c", "a", "b 1");
        log.learnAll();
        tests.dueText("learned", Told.templatesOfLines(log), "0 0 0 0 1");
        tests.due("forget()", log.forget(), 4);
        tests.dueText("templates", Told.templatesOfLines(log), "0 1 2 0 3");
        tests.dueText("kinds", Told.kinds(log, 0) + Told.kinds(log, 3), "0013");
        Log order = Log.of("a", "b");
        order.again(0);
        order.remove(0);
        tests.dueText("templates before", Told.templatesOfLines(order), "1 0");
        tests.due("forget()", order.forget(), 2);
        tests.dueText("in the order of the lines", Told.templatesOfLines(order), "0 1");
        Log opened = Log.of("a");
        opened.open(0, 0);
        opened.forget();
        tests.dueText("slots for words go", Told.kinds(opened, 0), "0");
        tests.same("forget() behind calls that run on a copy, and at once", Logs::worn, x -> {
            x.saves();
            x.runScript(4, 1000100010006000L);
            x.simulate(3, 30);
            return x.forget();
        }, x -> x.forget());
        tests.same("forget() twice and undo(), and once", Logs::worn, x -> x.forget() + x.forget() + x.undo(),
                x -> x.forget());
        tests.same("a refused forget() and forget(), and forget()", ActionBoundaries::ofThirteenWords, x -> {
            Told.outcome(x, y -> y.forget());
            return x.remove(5) + x.forget();
        }, x -> x.remove(5) + x.forget());
        Log text = Log.of("ab").write("zz?");
        text.forget();
        tests.due("the text stays", text.clearText(), 3);
    }

    // Promise 19

    private void undo() {
        tests.sentence(19, "IllegalStateException if none is remembered");
        tests.refuses("undo() of a new log", Log::new, STATE, x -> x.undo());
        tests.answers("undo() of one action", () -> Log.of("a"), x -> x.undo(), 0);
        tests.refuses("undo() when one is taken back", () -> {
            Log log = Log.of("a");
            log.undo();
            return log;
        }, STATE, x -> x.undo());
        tests.refuses("undo() when 14 are taken back", () -> {
            Log log = Logs.ofLines(20);
            for (int i = 0; i < 14; i++) {
                log.undo();
            }
            return log;
        }, STATE, x -> x.undo());
        tests.refuses("undo() behind restore()", () -> {
            Log log = Logs.worn();
            log.restore(1);
            return log;
        }, STATE, x -> x.undo());
        tests.refuses("undo() behind save()", () -> {
            Log log = new Log();
            log.save(0);
            return log;
        }, STATE, x -> x.undo());

        tests.sentence(19, "(undo is none)");
        Log log = Log.of("a", "b", "c");
        tests.due("undo()", log.undo(), 2);
        tests.due("undo() again takes back the action before", log.undo(), 1);
        tests.due("lines then", log.about(0), 1);
        log.write("d").take();
        tests.due("undo() of the action behind undo()", log.undo(), 1);
        tests.dueText("lines then", Told.lines(log), "a/0/1");
        tests.due("undo()", log.undo(), 0);
        tests.due("no lines then", log.about(0), 0);
    }

    private void undoOfMany() {
        tests.sentence(19, "At most 14 states are remembered; when one more is remembered, the oldest one is "
                + "forgotten.");
        for (int actions : new int[] {1, 2, 12, 13, 14, 15, 16, 17, 24}) {
            Log log = Logs.ofLines(actions);
            int remembered = Math.min(14, actions);
            for (int left = remembered - 1; left >= 0; left--) {
                tests.due("undo() of " + actions + " actions", log.undo(), left);
                tests.due("lines then", log.about(0), actions - remembered + left);
            }
            tests.dueText("undo() of no more", Told.outcome(log, x -> x.undo()), "IllegalStateException");
        }
        for (int rounds = 12; rounds <= 40; rounds++) {
            Log log = Logs.ofLines(1);
            for (int i = 0; i < rounds; i++) {
                log.again(0);
                log.remove(0);
            }
            log.undo();
            tests.due("lines, " + (2 * rounds + 1) + " actions and undo()", log.about(0), 2);
            for (int i = 0; i < 9; i++) {
                log.again(0);
            }
            for (int left = 13; left > 0; left--) {
                tests.due("undo() in a ring", log.undo(), left);
            }
            tests.due("the last undo() in a ring", log.undo(), 0);
            tests.due("lines then", log.about(0), 1);
        }
    }

    private interface Action {
        Object on(Log log);
    }

    private void undoOfEach() {
        tests.sentence(19, "Each call of one of them that does not throw an exception is an action, also if nothing "
                + "becomes different");
        dueRemembered("take()", x -> x.write("get a 7").take() + x.write("get c?").calls());
        dueRemembered("again(0)", x -> x.again(0));
        dueRemembered("remove(2)", x -> x.remove(2));
        dueRemembered("remove(1)", x -> x.remove(1));
        dueRemembered("learn() of nothing", x -> x.learn());
        dueRemembered("learnAll() of nothing", x -> x.learnAll());
        dueRemembered("open(0, 0)", x -> x.open(0, 0));
        dueRemembered("forget() of nothing learned", x -> x.forget());
        Log empty = new Log();
        tests.due("learn() of a new log", empty.learn(), NONE);
        tests.due("learnAll() of a new log", empty.learnAll(), 0);
        tests.due("forget() of a new log", empty.forget(), 0);
        tests.due("undo()", empty.undo(), 2);
        tests.due("undo()", empty.undo(), 1);
        tests.due("undo()", empty.undo(), 0);
        Log nothing = Logs.ofLines(14);
        nothing.learn();
        for (int i = 0; i < 14; i++) {
            nothing.undo();
        }
        tests.due("the oldest is forgotten for an action that changed nothing", nothing.about(0), 1);
    }

    private void undoOfMuch() {
        tests.sentence(19, "Takes back the last action that is remembered.");
        dueTakenBack("take() of a new template", x -> x.write("zz 1").take() + x.write("z").calls());
        dueTakenBack("take() of a template that is there", x -> x.write("get c 9").take() + x.write("z").calls());
        dueTakenBack("again(1)", x -> x.again(1));
        dueTakenBack("remove(0)", x -> x.remove(0));
        dueTakenBack("remove(3)", x -> x.remove(3));
        dueTakenBack("learn()", x -> x.learn());
        dueTakenBack("learnAll()", x -> x.learnAll());
        dueTakenBack("open(0, 2)", x -> x.open(0, 2));
        dueTakenBack("open(4, 0)", x -> x.open(4, 0));
        dueTakenBack("forget()", x -> x.forget());
    }

    private static Log ofMuch() {
        Log log = Log.of("get a", "put a", "get c 1", "put c 2", ":");
        log.save(0);
        log.learn();
        log.write("get b").take();
        log.again(1);
        return log.write("z");
    }

    private void dueTakenBack(String call, Action action) {
        tests.due("undo() of " + call, undone(ofMuch(), action), 8);
        tests.changesNothing(call + " and undo()", ActionBoundaries::ofMuch, x -> undone(x, action));
    }

    private void dueRemembered(String call, Action action) {
        tests.due("undo() of " + call, undone(Logs.worn(), action), 3);
        tests.changesNothing(call + " and undo()", Logs::worn, x -> undone(x, action));
    }

    private static int undone(Log log, Action action) {
        action.on(log);
        return log.undo();
    }

    private void undoOfRefused() {
        tests.sentence(19, "A call that throws an exception changes nothing.");
        Log log = Logs.ofLines(24);
        for (int i = 0; i < 20; i++) {
            Told.outcome(log, x -> x.take());
            Told.outcome(log, x -> x.again(0));
            Told.outcome(log, x -> x.again(24));
            Told.outcome(log, x -> x.remove(24));
            Told.outcome(log, x -> x.open(0, 1));
            Told.outcome(log, x -> x.open(1, 0));
            Told.outcome(log, x -> x.restore(0));
        }
        for (int left = 13; left >= 0; left--) {
            tests.due("undo() behind refused calls", log.undo(), left);
        }
        tests.due("lines then", log.about(0), 10);
        Log thirteen = ofThirteenWords();
        Told.outcome(thirteen, x -> x.forget());
        tests.due("undo() behind a refused forget()", thirteen.undo(), 13);
        tests.due("lines then", thirteen.about(0), 12);
    }
}
