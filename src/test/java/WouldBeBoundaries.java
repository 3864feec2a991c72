/** The boundaries that promises 20 to 24, which tell what would be, and the terms of the next line name. */
public final class WouldBeBoundaries {
    private static final int NONE = Log.NONE;
    private static final int LEAST = Integer.MIN_VALUE;
    private static final int MOST = Integer.MAX_VALUE;
    private static final Class<IllegalArgumentException> ARGUMENT = IllegalArgumentException.class;
    private static final Class<IndexOutOfBoundsException> INDEX = IndexOutOfBoundsException.class;

    private final Sentences tests = new Sentences("WouldBeBoundaries");

    public static void main(String[] args) {
        WouldBeBoundaries all = new WouldBeBoundaries();
        all.which();
        all.wouldCost();
        all.wouldCostOfRoom();
        all.saves();
        all.savesOfFirstPair();
        all.next();
        all.nextDigits();
        all.nextSteps();
        all.nextLength();
        all.withValue();
        all.asking();
        all.tests.close();
    }

    // Promise 20

    private void which() {
        tests.sentence(20, "Returns the first template that the text fits; NONE if there is none, or the text is not a "
                + "line.");
        tests.answers("which() of a new log", () -> new Log().write("a"), x -> x.which(), NONE);
        tests.answers("which() of no text", () -> Log.of("a").write(""), x -> x.which(), NONE);
        tests.answers("which() of the first of 12", () -> Logs.ofTwelveTemplates().write("a"), x -> x.which(), 0);
        tests.answers("which() of the last of 12", Logs::ofTwelveTemplates, x -> x.which(), 11);
        tests.answers("which() of a 13th", () -> Logs.ofTwelveTemplates().write("m"), x -> x.which(), NONE);
        tests.answers("which() with 24 lines", () -> Logs.ofLines(24), x -> x.which(), 0);
        tests.answers("which() of no template with 24", () -> Logs.ofLines(24).write("b 1"), x -> x.which(), NONE);
        tests.answers("which() of 40 letters", () -> Log.of("a".repeat(40)), x -> x.which(), 0);
        tests.answers("which() of 41 letters", () -> Log.of("a".repeat(40)).add("a"), x -> x.which(), NONE);
        tests.answers("which() of six digits", () -> Log.of("1").write("999999"), x -> x.which(), 0);
        tests.answers("which() of seven digits", () -> Log.of("1").write("1000000"), x -> x.which(), NONE);
        tests.answers("which() of 12 signs", () -> Log.of("::::::::::::"), x -> x.which(), 0);
        tests.answers("which() of 13 signs", () -> Log.of("::::::::::::").add(":"), x -> x.which(), NONE);
        tests.answers("which() of a line and a sign that is none", () -> Log.of("a 1").add("?"), x -> x.which(), NONE);
        Log log = Log.of("a x", "b x");
        log.open(1, 0);
        tests.due("which() of the first of two", log.write("a x").which(), 0);
        tests.due("which() of the second alone", log.write("b x").which(), 1);
        log.open(0, 0);
        tests.due("which() of the first of two now", log.which(), 0);
        tests.due("the line keeps the second", log.line(1, 0), 1);
    }

    // Promise 21

    private void wouldCost() {
        tests.sentence(21, "NONE if it is not a line");
        for (String text : new String[] {"", "?", "a 1?", "1234567", "a".repeat(41), "a".repeat(50), ":::::::::::::"}) {
            tests.answers("wouldCost() of <" + text + ">", () -> Logs.worn().write(text), x -> x.wouldCost(), NONE);
            tests.answers("in a new log", () -> new Log().write(text), x -> x.wouldCost(), NONE);
        }

        tests.sentence(21, "the cost that its line (alone, without that of a template) would have behind take()");
        Sentences.Maker log = () -> Log.of("a 10", "b 77", "a 12");
        String[] texts = {"a 14", "a 13", "a 014", "a 9", "b 77", "b 78", "c 1", "c 123456", "c", "   ",
            "a".repeat(40), "123456:123456:123456:123456:123456:12345"};
        int[] want = {2, 3, 4, 2, 2, 3, 2, 7, 1, 1, 1, 36};
        for (int i = 0; i < texts.length; i++) {
            String text = texts[i];
            tests.answers("wouldCost() of <" + text + ">", () -> log.make().write(text), x -> x.wouldCost(), want[i]);
            tests.answers("line(3, 2) of <" + text + ">", () -> log.make().write(text),
                    x -> x.take() * 0 + x.line(3, 2), want[i]);
        }
        Sentences.Maker slots = () -> Logs.ofDearLines(22);
        tests.answers("wouldCost() of the dearest line", () -> slots.make().write(Logs.DEAR_ONE), x -> x.wouldCost(),
                41);
        Sentences.Maker words = () -> {
            Log made = Log.of("get", "put");
            made.learn();
            return made;
        };
        for (String text : new String[] {"get", "put", "del", "x", "delete"}) {
            int cost = text.equals("get") || text.equals("put") ? 2 : 1 + text.length();
            tests.answers("wouldCost() of the word " + text, () -> words.make().write(text), x -> x.wouldCost(), cost);
        }
    }

    private void wouldCostOfRoom() {
        tests.sentence(21, "if the text is a line (whether there is room for it or not), with a new template, if it "
                + "needs one");
        tests.answers("wouldCost() in a new log", () -> new Log().write("ab 123"), x -> x.wouldCost(), 4);
        tests.answers("wouldCost() with 23 lines", () -> Logs.ofLines(23), x -> x.wouldCost(), 2);
        tests.answers("wouldCost() with 24 lines", () -> Logs.ofLines(24), x -> x.wouldCost(), 2);
        tests.answers("wouldCost() of two digits with 24", () -> Logs.ofLines(24).write("a 12"), x -> x.wouldCost(), 3);
        tests.answers("wouldCost() of a new one with 24", () -> Logs.ofLines(24).write("b 12"), x -> x.wouldCost(), 3);
        tests.answers("wouldCost() with 12 templates", Logs::ofTwelveTemplates, x -> x.wouldCost(), 1);
        tests.answers("wouldCost() of a 13th", () -> Logs.ofTwelveTemplates().write("m 123"), x -> x.wouldCost(), 4);
        tests.answers("wouldCost() of a 13th with 24 lines", () -> Logs.ofTwelveTemplates().repeat(0, 12).write("m 1"),
                x -> x.wouldCost(), 2);
        Log last = Logs.ofLines(23);
        last.write("a 3").take();
        tests.due("wouldCost() behind the 24th line", last.write("a 05").wouldCost(), 3);
        tests.due("wouldCost() of the step behind the 24th line", last.write("a 5").wouldCost(), 2);
    }

    // Promise 22

    private void saves() {
        tests.sentence(22, "NONE if there are no two templates to learn from");
        tests.answers("saves() of a new log", Log::new, x -> x.saves(), NONE);
        tests.answers("saves() of one template", () -> Logs.ofLines(24), x -> x.saves(), NONE);
        tests.answers("saves() of 12 unlike", Logs::ofTwelveUnlike, x -> x.saves(), NONE);
        tests.answers("saves() when all is learned", Logs::ofTwelveTemplates, x -> x.learnAll() * 0 + x.saves(), NONE);

        tests.sentence(22, "(less than 0: more)");
        // Two lines: their words go from the templates to the lines; a slot comes, and the rest of one template goes.
        tests.answers("saves() of words alone", () -> Log.of("ab", "cd"), x -> x.saves(), -1);
        tests.answers("saves() of one sign", () -> Log.of("ab:", "cd:"), x -> x.saves(), 0);
        tests.answers("saves() of two blanks", () -> Log.of("ab  ", "cd  "), x -> x.saves(), 1);
        tests.answers("saves() of a number", () -> Log.of("ab 1", "cd 2"), x -> x.saves(), 1);
        tests.answers("saves() of 39 more", () -> Log.of("a " + "x".repeat(38), "b " + "x".repeat(38)), x -> x.saves(),
                38);
        tests.answers("saves() of a number known then", () -> Log.of("a 123456", "b 123456"), x -> x.saves(), 6);
        tests.answers("saves() of 24 lines", () -> Log.of("a", "b").repeat(0, 11).repeat(1, 11), x -> x.saves(), -23);
    }

    private void savesOfFirstPair() {
        tests.sentence(22, "by how much the costs of all lines and templates together would become less by learn()");
        Log log = Log.of("ab", "cd", "ab:", "cd:", "ab::", "cd::");
        int[] want = {-1, 0, 1};
        for (int i = 0; i < want.length; i++) {
            int before = log.about(3) + log.about(4);
            tests.due("saves() of the first of the pairs", log.saves(), want[i]);
            tests.due("learn()", log.learn(), 100 * i + i + 1);
            tests.due("what it saved", before - log.about(3) - log.about(4), want[i]);
        }
        tests.due("saves() then", log.saves(), NONE);
        Log alike = Log.of("ab:", "cd:");
        alike.open(0, 0);
        alike.open(1, 0);
        tests.due("saves() of two that are alike", alike.saves(), 2);
        Log known = Log.of("ab:", "ab:=");
        known.open(0, 0);
        known.open(1, 0);
        tests.due("saves() of two that have not as many pieces", known.saves(), NONE);
    }

    // Promise 23

    private void next() {
        tests.sentence(23, "IndexOutOfBoundsException if there is no such template");
        tests.answers("next(0, 0) of 2", Logs::worn, x -> x.next(0, 0), 'g');
        tests.answers("next(1, 0) of 2", Logs::worn, x -> x.next(1, 0), 'p');
        for (int t : new int[] {-1, 2, 3, 12, LEAST, MOST}) {
            tests.refuses("next(" + t + ", 0)", Logs::worn, INDEX, x -> x.next(t, 0));
        }
        tests.answers("next(11, 0) of 12", Logs::ofTwelveTemplates, x -> x.next(11, 0), 'l');
        tests.refuses("next(12, 0) of 12", Logs::ofTwelveTemplates, INDEX, x -> x.next(12, 0));

        tests.sentence(23, "IllegalArgumentException if k is negative");
        for (int k : new int[] {-1, NONE, LEAST}) {
            tests.refuses("next(0, " + k + ")", Logs::worn, ARGUMENT, x -> x.next(0, k));
        }

        tests.sentence(23, "If several exceptions apply to a call, the one that its description names first is "
                + "thrown.");
        tests.refuses("next(-1, -1)", Logs::worn, INDEX, x -> x.next(-1, -1));
        tests.refuses("next(2, -1)", Logs::worn, INDEX, x -> x.next(2, -1));
        tests.refuses("next(0, -1) of a new log", Log::new, INDEX, x -> x.next(0, -1));

        tests.sentence(23, "Returns its code; NONE if this line would have no such character.");
        Log log = Log.of("a 9", "=");
        tests.due("next(0, 2)", log.next(0, 2), '9');
        tests.due("next(0, 3)", log.next(0, 3), NONE);
        tests.due("next(0, 4)", log.next(0, 4), NONE);
        tests.due("next(0, most)", log.next(0, MOST), NONE);
        tests.due("next(1, 0)", log.next(1, 0), '=');
        tests.due("next(1, 1)", log.next(1, 1), NONE);
    }

    private void dueNext(String want, String... lines) {
        tests.dueText("next line of " + String.join(", ", lines), Told.next(Log.of(lines), 0), want);
    }

    private void nextDigits() {
        tests.sentence(23, "written with as many digits as it has there, or more, if it needs them");
        dueNext("9", "7", "8");
        dueNext("10", "8", "9");
        dueNext("10", "08", "9");
        dueNext("09", "7", "08");
        dueNext("10", "08", "09");
        dueNext("11", "9", "10");
        dueNext("90", "88", "89");
        dueNext("95", "93", "94");
        dueNext("99", "97", "98");
        dueNext("100", "98", "99");
        dueNext("099", "97", "098");
        dueNext("900", "898", "899");
        dueNext("999", "997", "998");
        dueNext("1000", "998", "999");
        dueNext("9000", "8998", "8999");
        dueNext("9999", "9997", "9998");
        dueNext("10000", "9998", "9999");
        dueNext("90000", "89998", "89999");
        dueNext("99999", "99997", "99998");
        dueNext("100000", "99998", "99999");
        dueNext("900000", "899998", "899999");
        dueNext("999999", "999997", "999998");
        dueNext("000002", "000000", "000001");
        dueNext("99", "1", "50");
        dueNext("99", "93", "96");
        dueNext("18", "0", "9");
        dueNext("7", "10", "9", "8");

        tests.sentence(23, "its lowest 6 digits are written (zeros ahead, too), if it would have more");
        dueNext("000000", "999998", "999999");
        dueNext("000000", "0", "500000");
        dueNext("000001", "1", "500001");
        dueNext("999999", "1", "500000");
        dueNext("999998", "0", "999999");
        dueNext("100000", "100000", "600000");
        dueNext("a 000009=", "a 999989=", "a 999999=");
    }

    private void nextSteps() {
        tests.sentence(23, "the value is 0 if it would be below 0");
        dueNext("0", "2", "1");
        dueNext("0", "3", "1");
        dueNext("1", "3", "2");
        dueNext("00", "20", "10");
        dueNext("00", "21", "10");
        dueNext("01", "19", "10");
        dueNext("0", "999999", "0");
        dueNext("000000", "999999", "000000");
        dueNext("000000", "999999", "499999");
        dueNext("000001", "999999", "500000");

        tests.sentence(23, "its value less that of the line before it of the same template, 0 if there is none");
        dueNext("0", "0");
        dueNext("007", "007");
        dueNext("999999", "999999");
        dueNext("5", "5", "a", "5");
        dueNext("7", "5", "1 1", "6");
        dueNext("9", "1", "4", "6", "7", "8");
        dueNext("3 2:0", "1 8:5", "2 5:2");
        Log second = Log.of("a", "b 1", "a", "b 4");
        tests.dueText("next line of template 1", Told.next(second, 1), "b 7");
        second.remove(1);
        tests.dueText("when the line before has gone", Told.next(second, 1), "b 4");

        tests.sentence(23, "like the last line that has it");
        Log words = Log.of("get  a:1", "put  a:2");
        words.learn();
        tests.dueText("the word of the last line", Told.next(words, 0), "put  a:3");
        words.again(0);
        tests.dueText("the word of the last line now", Told.next(words, 0), "get  a:0");
        words.write("delete  a:5").take();
        tests.dueText("a longer word", Told.next(words, 0), "delete  a:9");
        dueNext(" :=", " :=");
    }

    private void nextLength() {
        tests.sentence(23, "Returns a character of the next line of a template, as it would be expected");
        dueNext(Logs.FORTY, Logs.FORTY);
        Log forty = Log.of(Logs.FORTY);
        tests.due("next(0, 39) of 40", forty.next(0, 39), 'k');
        tests.due("next(0, 40) of 40", forty.next(0, 40), NONE);
        String nines = "a".repeat(29) + "9b9c9d9e9f9";
        String eights = nines.replace('9', '8');
        Log more = Log.of(eights, nines);
        tests.due("next(0, 45) of a line that gets six digits more", more.next(0, 45), '0');
        tests.due("next(0, 46) of it", more.next(0, 46), NONE);
        tests.dueText("the whole line", Told.next(more, 0), nines.replace("9", "10"));
    }

    // Promise 24

    private void withValue() {
        tests.sentence(24, "IllegalArgumentException if v is out of range; v: 0 to 999999");
        Sentences.Maker ends = () -> Log.of("0", "999999:1", "999998", "000000", "a", "1");
        tests.answers("withValue(0)", ends, x -> x.withValue(0), 2);
        tests.answers("withValue(1)", ends, x -> x.withValue(1), 2);
        tests.answers("withValue(2)", ends, x -> x.withValue(2), 0);
        tests.answers("withValue(999998)", ends, x -> x.withValue(999998), 1);
        tests.answers("withValue(999999)", ends, x -> x.withValue(999999), 1);
        for (int v : new int[] {-1, 1000000, 1000001, NONE, LEAST, MOST}) {
            tests.refuses("withValue(" + v + ")", ends, ARGUMENT, x -> x.withValue(v));
            tests.refuses("withValue(" + v + ") of a new log", Log::new, ARGUMENT, x -> x.withValue(v));
        }

        tests.sentence(24, "Returns how many lines have a number with this value.");
        tests.answers("withValue(0) of a new log", Log::new, x -> x.withValue(0), 0);
        tests.answers("withValue(999999) of a new log", Log::new, x -> x.withValue(999999), 0);
        tests.answers("withValue(1) of 24 lines", () -> Logs.ofLines(24), x -> x.withValue(1), 24);
        tests.answers("withValue(7) of a line with six", () -> Log.of("7:7:07:007:7:7"), x -> x.withValue(7), 1);
        tests.answers("withValue(6) of the last of six", () -> Log.of("1:2:3:4:5:6"), x -> x.withValue(6), 1);
        tests.answers("withValue(1) of the first of six", () -> Log.of("1:2:3:4:5:6"), x -> x.withValue(1), 1);
        tests.answers("withValue(1) of 11 and 10", () -> Log.of("11", "10", "a01b"), x -> x.withValue(1), 1);
        tests.answers("withValue(0) of lines without numbers", () -> Log.of("a", " ", ":"), x -> x.withValue(0), 0);
        Log gone = Log.of("5", "6");
        gone.remove(0);
        tests.due("withValue(5) of a line that has gone", gone.withValue(5), 0);
    }

    private void asking() {
        tests.sentence(24, "these and all following methods up to the save slots change nothing");
        Sentences.Maker[] makers = {Logs::worn, () -> Logs.worn().write("get a 9"), () -> Logs.worn().write("x"),
            Log::new, () -> Logs.ofLines(24), Logs::ofTwelveTemplates};
        for (Sentences.Maker maker : makers) {
            tests.changesNothing("which()", maker, x -> x.which());
            tests.changesNothing("wouldCost()", maker, x -> x.wouldCost());
            tests.changesNothing("saves()", maker, x -> x.saves());
            tests.changesNothing("next(0, 0)", maker, x -> x.next(0, 0));
            tests.changesNothing("withValue(1)", maker, x -> x.withValue(1));
        }
    }
}
