/** The boundaries that promises 5 to 11, which ask for what there is, and the terms of costs name. */
public final class AskBoundaries {
    private static final int NONE = Log.NONE;
    private static final int LEAST = Integer.MIN_VALUE;
    private static final int MOST = Integer.MAX_VALUE;
    private static final Class<IllegalArgumentException> ARGUMENT = IllegalArgumentException.class;
    private static final Class<IndexOutOfBoundsException> INDEX = IndexOutOfBoundsException.class;
    private static final String FIRST = "If several exceptions apply to a call, the one that its description names "
            + "first is thrown.";

    private final Sentences tests = new Sentences("AskBoundaries");

    public static void main(String[] args) {
        AskBoundaries all = new AskBoundaries();
        all.about();
        all.aboutNumbers();
        all.aboutMost();
        all.aboutWords();
        all.line();
        all.lineNumbers();
        all.costOfFirstLines();
        all.costOfNumbers();
        all.costOfWords();
        all.charAt();
        all.value();
        all.template();
        all.templateNumbers();
        all.piece();
        all.pieceNumbers();
        all.rises();
        all.risesOfNumbers();
        all.asking();
        all.tests.close();
    }

    // Promise 5

    private void about() {
        tests.sentence(5, "IllegalArgumentException if what is not 0 to 7");
        int[] want = {3, 2, 21, 6, 14, 2, 0, 4};
        for (int what = 0; what < 8; what++) {
            int number = what;
            tests.answers("about(" + what + ")", Logs::worn, x -> x.about(number), want[what]);
        }
        for (int what : new int[] {-1, 8, NONE, LEAST, MOST}) {
            tests.refuses("about(" + what + ")", Logs::worn, ARGUMENT, x -> x.about(what));
            tests.refuses("about(" + what + ") of a new log", Log::new, ARGUMENT, x -> x.about(what));
        }
    }

    private void aboutNumbers() {
        tests.sentence(5, "0: the number of lines; 1: of templates; 2: of characters of all lines");
        for (int lines : new int[] {1, 2, 23, 24}) {
            tests.answers("about(0) of " + lines, () -> Logs.ofLines(lines), x -> x.about(0), lines);
            tests.answers("about(1) of " + lines + " lines", () -> Logs.ofLines(lines), x -> x.about(1), 1);
            tests.answers("about(2) of " + lines + " lines", () -> Logs.ofLines(lines), x -> x.about(2), 3 * lines);
        }
        tests.answers("about(1) of 11 templates", Logs::ofElevenTemplates, x -> x.about(1), 11);
        tests.answers("about(1) of 12 templates", Logs::ofTwelveTemplates, x -> x.about(1), 12);
        tests.answers("about(2) of one character", () -> Log.of(":"), x -> x.about(2), 1);
        tests.answers("about(2) of 24 lines of 40", () -> Log.of(Logs.FORTY).repeat(0, 23), x -> x.about(2), 960);
        tests.answers("about(0) of a log whose line went", () -> removed(Log.of("a 1")), x -> x.about(0), 0);
        tests.answers("about(4) of a log whose line went", () -> removed(Log.of("a 1")), x -> x.about(4), 0);
    }

    private static Log removed(Log log) {
        log.remove(0);
        return log;
    }

    private void aboutMost() {
        tests.sentence(5, "3: the costs of all lines; 4: of all templates; 5: the number of slots for numbers of all "
                + "templates; 6: of slots for words");
        tests.due("about(3) of a line without slots", Log.of(Logs.FORTY).about(3), 1);
        tests.due("about(4) of one sign", Log.of(":").about(4), 1);
        tests.due("about(4) of one number", Log.of("123456").about(4), 1);
        Log dear = Logs.ofDearLines(24);
        tests.due("about(3) of the dearest lines", dear.about(3), 24 * 41);
        tests.due("about(4) of them", dear.about(4), 12);
        Log letters = new Log();
        for (char c = 'a'; c < 'm'; c++) {
            letters.write(String.valueOf(c).repeat(40)).take();
        }
        tests.due("about(4) of the dearest templates", letters.about(4), 12 * 40);
        Log numbers = new Log();
        Log words = new Log();
        for (int t = 0; t < 12; t++) {
            String ends = t < 6 ? (char) ('b' + t) + " " : (char) ('b' + t) + ":";
            numbers.write("1a2a3a4a5a6" + ends.charAt(0)).take();
            words.write("a:b:c:d:e:" + ends).take();
        }
        tests.due("about(5) of most slots", numbers.about(5), 72);
        tests.due("about(6) of none", numbers.about(6), 0);
        tests.due("about(6) of words that are fixed", words.about(6), 0);
        openAll(words);
        tests.due("about(6) of most slots", words.about(6), 72);
        tests.due("about(5) of none", words.about(5), 0);
    }

    private static void openAll(Log log) {
        for (int t = 0; t < 12; t++) {
            for (int p = 0; p < 12; p += 2) {
                log.open(t, p);
            }
        }
    }

    private void aboutWords() {
        tests.sentence(5, "7: of different words in all lines");
        tests.due("no words", Log.of("1 2:3=4", "  ").about(7), 0);
        tests.due("one word", Log.of("a").about(7), 1);
        tests.due("one word in six pieces", Log.of("ab ab:ab=ab1ab ab").about(7), 1);
        tests.due("one word in two lines", Log.of("ab", "1ab").about(7), 1);
        tests.due("a word that another begins with", Log.of("ab abc", "b bc").about(7), 4);
        tests.due("words that differ in the last letter", Log.of("abc abd").about(7), 2);
        tests.due("words that differ in the first letter", Log.of("abc", "bbc").about(7), 2);
        tests.due("the word of a template whose line went", removed(Log.of("a", "b")).about(7), 1);
        Log most = new Log();
        int letters = 0;
        for (int i = 0; i < 24; i++) {
            StringBuilder line = new StringBuilder();
            for (int p = 0; p < 6; p++) {
                line.append((char) ('a' + letters / 26)).append((char) ('a' + letters % 26));
                line.append(p < 5 ? ":" : "");
                letters++;
            }
            most.write(line.toString()).take();
            for (int p = 0; p < 12 && i == 0; p += 2) {
                most.open(0, p);
            }
        }
        tests.due("most words", most.about(7), 144);
    }

    // Promise 6

    private void line() {
        tests.sentence(6, "IndexOutOfBoundsException if there is no such line");
        tests.answers("line(0, 1) of 3", Logs::worn, x -> x.line(0, 1), 7);
        tests.answers("line(2, 1) of 3", Logs::worn, x -> x.line(2, 1), 7);
        for (int i : new int[] {-1, 3, 24, LEAST, MOST}) {
            for (int what = 0; what < 4; what++) {
                int number = what;
                tests.refuses("line(" + i + ", " + what + ") of 3", Logs::worn, INDEX, x -> x.line(i, number));
            }
        }
        tests.answers("line(23, 3) of 24", () -> Logs.ofLines(24), x -> x.line(23, 3), 23);
        tests.refuses("line(24, 3) of 24", () -> Logs.ofLines(24), INDEX, x -> x.line(24, 3));
        tests.refuses("line(23, 3) of 23", () -> Logs.ofLines(23), INDEX, x -> x.line(23, 3));

        tests.sentence(6, "IllegalArgumentException if what is not 0 to 3");
        int[] want = {0, 7, 2, 1};
        for (int what = 0; what < 4; what++) {
            int number = what;
            tests.answers("line(2, " + what + ")", Logs::worn, x -> x.line(2, number), want[what]);
        }
        for (int what : new int[] {-1, 4, LEAST, MOST}) {
            tests.refuses("line(0, " + what + ")", Logs::worn, ARGUMENT, x -> x.line(0, what));
            tests.refuses("line(2, " + what + ")", Logs::worn, ARGUMENT, x -> x.line(2, what));
        }

        tests.sentence(6, FIRST);
        tests.refuses("line(-1, -1)", Logs::worn, INDEX, x -> x.line(-1, -1));
        tests.refuses("line(3, 4)", Logs::worn, INDEX, x -> x.line(3, 4));
        tests.refuses("line(0, -1) of a new log", Log::new, INDEX, x -> x.line(0, -1));
    }

    private void lineNumbers() {
        tests.sentence(6, "0: its template; 1: its length; 2: its cost; 3: how many lines of the same template are "
                + "before it");
        Log twelve = Logs.ofTwelveTemplates();
        tests.due("the template of the first line", twelve.line(0, 0), 0);
        tests.due("the template of the twelfth line", twelve.line(11, 0), 11);
        tests.due("lines of its template before it", twelve.line(11, 3), 0);
        tests.due("a length of 1", Log.of("=").line(0, 1), 1);
        tests.due("a length of 40", Log.of(Logs.FORTY).line(0, 1), 40);
        tests.due("the least cost", Log.of(Logs.FORTY).line(0, 2), 1);
        tests.due("the most cost", Logs.ofDearLines(1).line(0, 2), 41);
        tests.due("the most cost later", Logs.ofDearLines(24).line(23, 2), 41);
        Log log = Log.of("a 1", "b", "a 2", "b", "a 3");
        int[] before = {0, 0, 1, 1, 2};
        for (int i = 0; i < before.length; i++) {
            tests.due("line(" + i + ", 3)", log.line(i, 3), before[i]);
        }
    }

    private void dueCosts(String what, String want, String... lines) {
        tests.dueText(what, Told.costsOfLines(Log.of(lines)), want);
    }

    private void costOfFirstLines() {
        tests.sentence(6, "In the first line of a template it costs 1 for each digit.");
        dueCosts("one digit", "2", "7");
        dueCosts("six digits", "7", "999999");
        dueCosts("zeros", "7", "000000");
        dueCosts("two numbers", "8", "a 123=4567");
        dueCosts("the same number in another template", "4 4", "a 123", "b 123");
        Log log = Log.of("a 123", "a 123");
        tests.dueText("second line", Told.costsOfLines(log), "4 2");
        log.remove(0);
        tests.dueText("second line that became the first", Told.costsOfLines(log), "4");
    }

    private void costOfNumbers() {
        tests.sentence(6, "0 if there is none");
        dueCosts("the second line with the same value", "3 2", "10", "10");
        dueCosts("one more", "3 3", "10", "11");
        dueCosts("one less", "3 3", "10", "09");
        dueCosts("twice the value", "3 3", "10", "20");

        tests.sentence(6, "a number costs 1 if its value is that of the line before it plus the step there");
        dueCosts("just the step", "3 3 2", "10", "12", "14");
        dueCosts("one less than the step", "3 3 3", "10", "12", "13");
        dueCosts("one more than the step", "3 3 3", "10", "12", "15");
        dueCosts("no step any more", "3 3 3", "10", "12", "12");
        dueCosts("the step of the last two only", "3 3 3 2", "10", "12", "17", "22");
        dueCosts("the step before the last", "3 3 3 3", "10", "12", "17", "19");
        dueCosts("down to 0", "3 3 2", "24", "12", "00");
        dueCosts("below 0", "3 3 3", "22", "10", "00");
        dueCosts("up to the highest value", "7 7 2", "999997", "999998", "999999");
        dueCosts("a step beyond it", "7 7 7", "500000", "999999", "499998");
        dueCosts("steps of the same template only", "3 3 3 2 2", "a10", "b50", "a20", "b50", "a30");

        tests.sentence(6, "and it has as many digits as that one; otherwise 1 for each digit");
        dueCosts("9 and 10", "2 2 3", "8", "9", "10");
        dueCosts("09 and 10", "3 3 2", "08", "09", "10");
        dueCosts("10 and 9", "3 3 2", "12", "11", "10");
        dueCosts("10 and 009", "3 3 4", "11", "10", "009");
        dueCosts("the same value with one digit more", "3 4", "12", "012");
        dueCosts("the same value with one digit less", "4 3", "012", "12");
        dueCosts("digits of the last line only", "2 3 2", "6", "07", "08");
        dueCosts("six digits", "7 2", "000001", "000001");
        dueCosts("five digits and six", "6 7", "00001", "000001");
        dueCosts("each number by itself", "5 4 4", "10:10", "10:20", "10:31");
    }

    private void costOfWords() {
        tests.sentence(6, "a word costs 1 if a line before it of the same template has the same word in this slot, "
                + "otherwise 1 for each letter");
        Log log = Log.of("get a");
        log.open(0, 0);
        log.open(0, 2);
        for (String line : new String[] {"put a", "get b", "delete a", "put a", "getx a"}) {
            log.write(line).take();
        }
        tests.dueText("templates", Told.templatesOfLines(log), "0 0 0 0 0 0");
        tests.dueText("first, other, known, other, known, longer", Told.costsOfLines(log), "5 5 3 8 3 6");
        log.remove(0);
        tests.dueText("when the first has gone", Told.costsOfLines(log), "5 5 8 3 6");
        Log slots = Log.of("ab cd");
        slots.open(0, 0);
        slots.open(0, 2);
        slots.write("cd ab").take();
        tests.dueText("words of the other slot", Told.costsOfLines(slots), "5 5");
        Log others = Log.of("ab", "ab 1");
        others.open(0, 0);
        others.open(1, 0);
        tests.dueText("words of another template", Told.costsOfLines(others), "3 4");
        Log later = Log.of("ab");
        later.open(0, 0);
        later.write("cd").take();
        later.again(0);
        tests.dueText("a word that comes later", Told.costsOfLines(later), "3 3 2");
        Log between = Log.of("ab", ":");
        between.open(0, 0);
        between.again(0);
        between.write("cd").take();
        between.again(1);
        between.again(0);
        between.again(3);
        tests.dueText("lines of another template between", Told.costsOfLines(between), "3 1 2 3 1 2 2");
        tests.due("words there", between.piece(0, 0, 2), 2);
        Log one = Log.of("a");
        one.open(0, 0);
        one.again(0);
        tests.dueText("one letter", Told.costsOfLines(one), "2 2");
        Log forty = Log.of("a".repeat(40));
        forty.open(0, 0);
        forty.again(0);
        forty.write("a".repeat(39)).take();
        tests.dueText("40 letters, and 39 of them", Told.costsOfLines(forty), "41 2 40");
    }

    // Promise 7

    private void charAt() {
        tests.sentence(7, "IndexOutOfBoundsException if there is no such line");
        tests.answers("charAt(0, 0) of 3 lines", Logs::worn, x -> x.charAt(0, 0), 'g');
        tests.answers("charAt(1, 0) of 3 lines", Logs::worn, x -> x.charAt(1, 0), 'p');
        tests.answers("charAt(2, 0) of 3 lines", Logs::worn, x -> x.charAt(2, 0), 'g');
        for (int i : new int[] {-1, 3, 24, LEAST, MOST}) {
            tests.refuses("charAt(" + i + ", 0)", Logs::worn, INDEX, x -> x.charAt(i, 0));
        }
        tests.answers("charAt(23, 2) of 24 lines", () -> Logs.ofLines(24), x -> x.charAt(23, 2), '1');
        tests.refuses("charAt(24, 2) of 24 lines", () -> Logs.ofLines(24), INDEX, x -> x.charAt(24, 2));

        tests.sentence(7, "IllegalArgumentException if k is negative");
        for (int k : new int[] {-1, NONE, LEAST}) {
            tests.refuses("charAt(0, " + k + ")", Logs::worn, ARGUMENT, x -> x.charAt(0, k));
        }

        tests.sentence(7, FIRST);
        tests.refuses("charAt(-1, -1)", Logs::worn, INDEX, x -> x.charAt(-1, -1));
        tests.refuses("charAt(3, -1)", Logs::worn, INDEX, x -> x.charAt(3, -1));
        tests.refuses("charAt(0, -1) of a new log", Log::new, INDEX, x -> x.charAt(0, -1));

        tests.sentence(7, "Returns its code; NONE if the line has no such character.");
        Log log = Log.of("=", "az09 :=", Logs.FORTY);
        tests.due("charAt(0, 0)", log.charAt(0, 0), '=');
        tests.due("charAt(0, 1)", log.charAt(0, 1), NONE);
        tests.dueText("line 1", Told.line(log, 1), "az09 :=");
        tests.due("charAt(1, 6)", log.charAt(1, 6), '=');
        tests.due("charAt(1, 7)", log.charAt(1, 7), NONE);
        tests.due("charAt(2, 38)", log.charAt(2, 38), 'j');
        tests.due("charAt(2, 39)", log.charAt(2, 39), 'k');
        tests.due("charAt(2, 40)", log.charAt(2, 40), NONE);
        tests.due("charAt(2, 41)", log.charAt(2, 41), NONE);
        tests.due("charAt(2, most)", log.charAt(2, MOST), NONE);
        tests.due("charAt(0, most)", log.charAt(0, MOST), NONE);
        tests.dueText("line 2", Told.line(log, 2), Logs.FORTY);
    }

    // Promise 8

    private void value() {
        tests.sentence(8, "IndexOutOfBoundsException if there is no such line or piece");
        Sentences.Maker two = () -> Log.of("a 7", "1a2b3c4d5e6f", "9");
        tests.answers("value(0, 2)", two, x -> x.value(0, 2), 7);
        tests.answers("value(1, 0)", two, x -> x.value(1, 0), 1);
        tests.answers("value(1, 10)", two, x -> x.value(1, 10), 6);
        tests.answers("value(1, 11)", two, x -> x.value(1, 11), NONE);
        tests.answers("value(2, 0)", two, x -> x.value(2, 0), 9);
        for (int p : new int[] {-1, 3, 4, 12, LEAST, MOST}) {
            tests.refuses("value(0, " + p + ")", two, INDEX, x -> x.value(0, p));
        }
        for (int p : new int[] {-1, 12, 13, LEAST, MOST}) {
            tests.refuses("value(1, " + p + ")", two, INDEX, x -> x.value(1, p));
        }
        tests.refuses("value(2, 1)", two, INDEX, x -> x.value(2, 1));
        for (int i : new int[] {-1, 3, 24, LEAST, MOST}) {
            tests.refuses("value(" + i + ", 0)", two, INDEX, x -> x.value(i, 0));
            tests.refuses("value(" + i + ", -1)", two, INDEX, x -> x.value(i, -1));
        }
        tests.answers("value(23, 2) of 24 lines", () -> Logs.ofLines(24), x -> x.value(23, 2), 1);
        tests.refuses("value(24, 2) of 24 lines", () -> Logs.ofLines(24), INDEX, x -> x.value(24, 2));

        tests.sentence(8, "Returns its value; NONE if the piece is no number.");
        Log log = Log.of("a 0=000000:999999", "000001 099999 100000");
        int[] first = {NONE, NONE, 0, NONE, 0, NONE, 999999};
        int[] second = {1, NONE, 99999, NONE, 100000};
        for (int p = 0; p < first.length; p++) {
            tests.due("value(0, " + p + ")", log.value(0, p), first[p]);
        }
        for (int p = 0; p < second.length; p++) {
            tests.due("value(1, " + p + ")", log.value(1, p), second[p]);
        }
        log.open(0, 0);
        tests.due("value(0, 0) of a word in a slot", log.value(0, 0), NONE);
    }

    // Promise 9

    private void template() {
        tests.sentence(9, "IndexOutOfBoundsException if there is no such template");
        tests.answers("template(0, 5)", Logs::worn, x -> x.template(0, 5), 0);
        tests.answers("template(1, 5)", Logs::worn, x -> x.template(1, 5), 1);
        for (int t : new int[] {-1, 2, 3, 12, LEAST, MOST}) {
            for (int what = 0; what < 6; what++) {
                int number = what;
                tests.refuses("template(" + t + ", " + what + ")", Logs::worn, INDEX, x -> x.template(t, number));
            }
        }
        tests.answers("template(11, 5) of 12", Logs::ofTwelveTemplates, x -> x.template(11, 5), 11);
        tests.refuses("template(12, 5) of 12", Logs::ofTwelveTemplates, INDEX, x -> x.template(12, 5));
        tests.refuses("template(11, 5) of 11", Logs::ofElevenTemplates, INDEX, x -> x.template(11, 5));
        tests.refuses("template(1, 0) of 24 lines and 1", () -> Logs.ofLines(24), INDEX, x -> x.template(1, 0));

        tests.sentence(9, "IllegalArgumentException if what is not 0 to 5");
        int[] want = {5, 2, 1, 0, 7, 0};
        for (int what = 0; what < 6; what++) {
            int number = what;
            tests.answers("template(0, " + what + ")", Logs::worn, x -> x.template(0, number), want[what]);
        }
        for (int what : new int[] {-1, 6, 7, LEAST, MOST}) {
            tests.refuses("template(0, " + what + ")", Logs::worn, ARGUMENT, x -> x.template(0, what));
            tests.refuses("template(1, " + what + ")", Logs::worn, ARGUMENT, x -> x.template(1, what));
        }

        tests.sentence(9, FIRST);
        tests.refuses("template(-1, -1)", Logs::worn, INDEX, x -> x.template(-1, -1));
        tests.refuses("template(2, 6)", Logs::worn, INDEX, x -> x.template(2, 6));
        tests.refuses("template(0, 6) of a new log", Log::new, INDEX, x -> x.template(0, 6));
    }

    private void dueTemplate(String what, Log log, int t, int... want) {
        for (int number = 0; number < want.length; number++) {
            tests.due(what + ", template(" + t + ", " + number + ")", log.template(t, number), want[number]);
        }
    }

    private void templateNumbers() {
        tests.sentence(9, "0: how many pieces it has; 1: how many lines have it; 2: its slots for numbers; 3: its "
                + "slots for words; 4: its cost; 5: its first line");
        dueTemplate("one sign", Log.of(":"), 0, 1, 1, 0, 0, 1, 0);
        dueTemplate("one number of six digits", Log.of("123456"), 0, 1, 1, 1, 0, 1, 0);
        dueTemplate("40 letters", Log.of("a".repeat(40)), 0, 1, 1, 0, 0, 40, 0);
        dueTemplate("40 blanks", Log.of(" ".repeat(40)), 0, 1, 1, 0, 0, 40, 0);
        dueTemplate("12 signs", Log.of("::::::======"), 0, 12, 1, 0, 0, 12, 0);
        dueTemplate("6 numbers and 6 slots for words", Logs.ofDearLines(24), 0, 12, 24, 6, 6, 12, 0);
        dueTemplate("24 lines", Logs.ofLines(24), 0, 3, 24, 1, 0, 3, 0);
        Log last = Logs.ofLines(23).write("zz  7");
        last.take();
        dueTemplate("the template of the last of 24 lines", last, 1, 3, 1, 1, 0, 5, 23);
        dueTemplate("the template of all others", last, 0, 3, 23, 1, 0, 3, 0);
        Log opened = Log.of("a".repeat(40));
        opened.open(0, 0);
        dueTemplate("40 letters that are a slot", opened, 0, 1, 1, 0, 1, 1, 0);
        Log gone = Log.of("a 1", "b 1", "a 2");
        gone.remove(0);
        dueTemplate("when its first line has gone", gone, 0, 3, 1, 1, 0, 3, 1);
        dueTemplate("when a line before has gone", gone, 1, 3, 1, 1, 0, 3, 0);
    }

    // Promise 10

    private void piece() {
        tests.sentence(10, "IndexOutOfBoundsException if there is no such template or piece");
        Sentences.Maker two = () -> Log.of("get 1", "1a2b3c4d5e6f");
        tests.answers("piece(0, 0, 1)", two, x -> x.piece(0, 0, 1), 3);
        tests.answers("piece(0, 2, 0)", two, x -> x.piece(0, 2, 0), 3);
        tests.answers("piece(1, 11, 1)", two, x -> x.piece(1, 11, 1), 1);
        for (int what = 0; what < 3; what++) {
            int number = what;
            for (int p : new int[] {-1, 3, 12, LEAST, MOST}) {
                tests.refuses("piece(0, " + p + ", " + what + ")", two, INDEX, x -> x.piece(0, p, number));
            }
            for (int p : new int[] {-1, 12, 13, LEAST, MOST}) {
                tests.refuses("piece(1, " + p + ", " + what + ")", two, INDEX, x -> x.piece(1, p, number));
            }
            for (int t : new int[] {-1, 2, 12, LEAST, MOST}) {
                tests.refuses("piece(" + t + ", 0, " + what + ")", two, INDEX, x -> x.piece(t, 0, number));
            }
        }
        tests.answers("piece(11, 0, 1) of 12", Logs::ofTwelveTemplates, x -> x.piece(11, 0, 1), 1);
        tests.refuses("piece(12, 0, 1) of 12", Logs::ofTwelveTemplates, INDEX, x -> x.piece(12, 0, 1));
        tests.refuses("piece(11, 1, 1) of 12", Logs::ofTwelveTemplates, INDEX, x -> x.piece(11, 1, 1));

        tests.sentence(10, "IllegalArgumentException if what is not 0 to 2");
        for (int what : new int[] {-1, 3, 4, LEAST, MOST}) {
            tests.refuses("piece(0, 0, " + what + ")", two, ARGUMENT, x -> x.piece(0, 0, what));
            tests.refuses("piece(1, 11, " + what + ")", two, ARGUMENT, x -> x.piece(1, 11, what));
        }

        tests.sentence(10, FIRST);
        tests.refuses("piece(-1, 0, -1)", two, INDEX, x -> x.piece(-1, 0, -1));
        tests.refuses("piece(0, -1, -1)", two, INDEX, x -> x.piece(0, -1, -1));
        tests.refuses("piece(0, 3, 3)", two, INDEX, x -> x.piece(0, 3, 3));
        tests.refuses("piece(2, 0, 3)", two, INDEX, x -> x.piece(2, 0, 3));
    }

    private void duePiece(String what, Log log, int p, int... want) {
        for (int number = 0; number < want.length; number++) {
            tests.due(what + ", piece(0, " + p + ", " + number + ")", log.piece(0, p, number), want[number]);
        }
    }

    private void pieceNumbers() {
        tests.sentence(10, "0: 0 if it is a fixed word, 1 blanks, 2 a sign, 3 a slot for numbers, 4 a slot for words; "
                + "1: its length, 0 for a slot");
        Log log = Log.of("a  :=1 bc");
        log.open(0, 6);
        duePiece("a fixed word", log, 0, 0, 1, 1);
        duePiece("blanks", log, 1, 1, 2, 1);
        duePiece("the sign :", log, 2, 2, 1, 1);
        duePiece("the sign =", log, 3, 2, 1, 1);
        duePiece("a slot for numbers", log, 4, 3, 0, 1);
        duePiece("one blank", log, 5, 1, 1, 1);
        duePiece("a slot for words", log, 6, 4, 0, 1);
        duePiece("a word of 40", Log.of("a".repeat(40)), 0, 0, 40, 1);
        duePiece("40 blanks", Log.of(" ".repeat(40)), 0, 1, 40, 1);
        duePiece("a number of six digits", Log.of("123456"), 0, 3, 0, 1);

        tests.sentence(10, "2: how many different things the lines of the template have there (words, or values of "
                + "numbers; 1 for the others)");
        Log values = Log.of("a 0", "a 00", "a 000000", "a 1", "a 01", "a 1", "b 7");
        duePiece("values, and not how they are written", values, 2, 3, 0, 2);
        duePiece("a fixed word of six lines", values, 0, 0, 1, 1);
        duePiece("blanks of six lines", values, 1, 1, 1, 1);
        Log most = new Log();
        for (int i = 0; i < 24; i++) {
            most.write((char) ('a' + i) + ":" + (i + 10)).take();
            if (i == 0) {
                most.open(0, 0);
            }
        }
        duePiece("24 words", most, 0, 4, 0, 24);
        duePiece("a sign of 24 lines", most, 1, 2, 1, 1);
        duePiece("24 values", most, 2, 3, 0, 24);
        duePiece("one value of 24 lines", Logs.ofLines(24), 2, 3, 0, 1);
        duePiece("values of lines with others between", Log.of("1", "a", "2", "b", "1", "a", "2"), 0, 3, 0, 2);
        most.remove(0);
        most.remove(0);
        most.again(0);
        most.again(21);
        duePiece("words of lines that are there", most, 0, 4, 0, 22);
    }

    // Promise 11

    private void rises() {
        tests.sentence(11, "IndexOutOfBoundsException if there is no such template or piece");
        Sentences.Maker two = () -> Log.of("get 1", "1a2b3c4d5e6f");
        tests.answers("rises(0, 2)", two, x -> x.rises(0, 2), 1);
        tests.answers("rises(1, 0)", two, x -> x.rises(1, 0), 1);
        tests.answers("rises(1, 10)", two, x -> x.rises(1, 10), 1);
        tests.answers("rises(1, 11)", two, x -> x.rises(1, 11), NONE);
        for (int p : new int[] {-1, 3, 12, LEAST, MOST}) {
            tests.refuses("rises(0, " + p + ")", two, INDEX, x -> x.rises(0, p));
        }
        for (int p : new int[] {-1, 12, 13, LEAST, MOST}) {
            tests.refuses("rises(1, " + p + ")", two, INDEX, x -> x.rises(1, p));
        }
        for (int t : new int[] {-1, 2, 12, LEAST, MOST}) {
            tests.refuses("rises(" + t + ", 0)", two, INDEX, x -> x.rises(t, 0));
        }
        tests.answers("rises(11, 0) of 12", Logs::ofTwelveTemplates, x -> x.rises(11, 0), NONE);
        tests.refuses("rises(12, 0) of 12", Logs::ofTwelveTemplates, INDEX, x -> x.rises(12, 0));

        tests.sentence(11, "NONE if the piece is no slot for numbers");
        Log log = Log.of("a  :=1 bc");
        log.open(0, 6);
        int[] want = {NONE, NONE, NONE, NONE, 1, NONE, NONE};
        for (int p = 0; p < want.length; p++) {
            tests.due("rises(0, " + p + ")", log.rises(0, p), want[p]);
        }
    }

    private void dueRises(int want, String... lines) {
        tests.due("rises(0, 0) of " + String.join(", ", lines), Log.of(lines).rises(0, 0), want);
    }

    private void risesOfNumbers() {
        tests.sentence(11, "1, if there is one line; 2 or more, if there are more");
        dueRises(1, "0");
        dueRises(1, "999999");
        dueRises(2, "0", "999999");
        dueRises(2, "999999", "0");
        dueRises(2, "5", "5");
        dueRises(2, "5", "5", "6");
        dueRises(2, "1", "2", "4");
        dueRises(1, "1a", "1", "2");

        tests.sentence(11, "the values at this piece differ from each to the next one by the same step");
        dueRises(3, "5", "5", "5");
        dueRises(3, "5", "05", "005");
        dueRises(3, "9", "6", "3");
        dueRises(3, "8", "9", "10");
        dueRises(3, "1", "500000", "999999");
        dueRises(2, "0", "500000", "999999");
        dueRises(3, "9", "1", "2", "3");
        dueRises(2, "1", "2", "3", "3");
        dueRises(2, "1", "2", "3", "5", "6", "8");
        dueRises(3, "1", "2", "1", "2", "3");
        dueRises(2, "1", "2", "1");
        Log same = Logs.ofLines(24);
        tests.due("rises(0, 2) of 24 lines with one value", same.rises(0, 2), 24);
        Log most = new Log();
        for (int i = 0; i < 24; i++) {
            most.write("" + (i == 0 ? 10 : 20 + 2 * i)).take();
        }
        tests.due("rises(0, 0) of 23 lines behind another", most.rises(0, 0), 23);
        Log between = Log.of("1", "a", "2", "b", "c", "3", "7 7");
        tests.due("rises(0, 0) with others between", between.rises(0, 0), 3);
        Log numbers = Log.of("1:5:9", "2:5:7", "4:5:5");
        tests.due("rises(0, 0) of the first number", numbers.rises(0, 0), 2);
        tests.due("rises(0, 2) of the second number", numbers.rises(0, 2), 3);
        tests.due("rises(0, 4) of the third number", numbers.rises(0, 4), 3);
    }

    private void asking() {
        tests.sentence(11, "the calls that ask what there is are no actions, and leave text and slots");
        tests.changesNothing("about", Logs::worn, x -> x.about(0) + x.about(3) + x.about(4) + x.about(7));
        tests.changesNothing("line", Logs::worn, x -> x.line(0, 0) + x.line(1, 1) + x.line(2, 2) + x.line(2, 3));
        tests.changesNothing("charAt", Logs::worn, x -> x.charAt(0, 0) + x.charAt(2, 6) + x.charAt(2, 7));
        tests.changesNothing("value", Logs::worn, x -> x.value(0, 0) + x.value(2, 4));
        tests.changesNothing("template", Logs::worn, x -> x.template(0, 1) + x.template(1, 4) + x.template(1, 5));
        tests.changesNothing("piece", Logs::worn, x -> x.piece(0, 0, 2) + x.piece(0, 4, 2) + x.piece(1, 2, 1));
        tests.changesNothing("rises", Logs::worn, x -> x.rises(0, 0) + x.rises(0, 4) + x.rises(1, 4));
    }
}
