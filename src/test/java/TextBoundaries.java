/** The boundaries that promises 1 to 4 and the terms of lines and of the text name. */
public final class TextBoundaries {
    private static final int NONE = Log.NONE;
    private static final int LEAST = Integer.MIN_VALUE;
    private static final int MOST = Integer.MAX_VALUE;
    private static final Class<IllegalArgumentException> ARGUMENT = IllegalArgumentException.class;
    private static final Class<IllegalStateException> STATE = IllegalStateException.class;
    private static final Class<IndexOutOfBoundsException> INDEX = IndexOutOfBoundsException.class;
    private static final String FORTY = "abcdefghij klmnopqrst uvwxyzabcd efghijk";
    private static final String TWELVE = "a:b:c:d:e:f:";

    private final Sentences tests = new Sentences("TextBoundaries");

    public static void main(String[] args) {
        TextBoundaries all = new TextBoundaries();
        all.newLog();
        all.callsOfOneObject();
        all.append();
        all.clearText();
        all.charactersOfLines();
        all.lengthOfLines();
        all.digitsOfNumbers();
        all.piecesOfLines();
        all.whateverComesFirst();
        all.emptyText();
        all.tests.close();
    }

    private static String textOf(char c, int length) {
        return String.valueOf(c).repeat(length);
    }

    // Promise 1

    private void newLog() {
        tests.sentence(1, "Creates a log without lines.");
        for (int what = 0; what < 8; what++) {
            int number = what;
            tests.answers("about(" + what + ")", Log::new, x -> x.about(number), 0);
        }
        tests.refuses("line(0, 0)", Log::new, INDEX, x -> x.line(0, 0));
        tests.refuses("charAt(0, 0)", Log::new, INDEX, x -> x.charAt(0, 0));
        tests.refuses("value(0, 0)", Log::new, INDEX, x -> x.value(0, 0));
        tests.refuses("template(0, 0)", Log::new, INDEX, x -> x.template(0, 0));
        tests.refuses("piece(0, 0, 0)", Log::new, INDEX, x -> x.piece(0, 0, 0));
        tests.refuses("rises(0, 0)", Log::new, INDEX, x -> x.rises(0, 0));
        tests.refuses("again(0)", Log::new, INDEX, x -> x.again(0));
        tests.refuses("remove(0)", Log::new, INDEX, x -> x.remove(0));
        tests.refuses("open(0, 0)", Log::new, INDEX, x -> x.open(0, 0));
        tests.refuses("next(0, 0)", Log::new, INDEX, x -> x.next(0, 0));
        tests.answers("which()", Log::new, x -> x.which(), NONE);
        tests.answers("wouldCost()", Log::new, x -> x.wouldCost(), NONE);
        tests.answers("saves()", Log::new, x -> x.saves(), NONE);
        tests.answers("withValue(0)", Log::new, x -> x.withValue(0), 0);
        newLogHasNothingElse();
    }

    private void newLogHasNothingElse() {
        tests.answers("clearText()", Log::new, x -> x.clearText(), 0);
        tests.answers("errorPosition()", Log::new, x -> x.errorPosition(), 0);
        tests.refuses("undo()", Log::new, STATE, x -> x.undo());
        tests.refuses("restore(0)", Log::new, STATE, x -> x.restore(0));
        tests.refuses("restore(1)", Log::new, STATE, x -> x.restore(1));
        Log one = Log.of("a 1", "b 2");
        one.save(0);
        Log other = new Log();
        tests.due("lines of another object", other.about(0), 0);
        tests.due("text of another object", other.clearText(), 0);
        tests.refuses("restore(0) of another object", Log::new, STATE, x -> x.restore(0));
        other.write("c").take();
        tests.due("lines of the first object", one.about(0), 2);
    }

    private void callsOfOneObject() {
        tests.sentence(1, "An object is used for at most 512 calls after it has been made");
        Log taking = Log.of("a 1");
        for (int i = 1; i < 24; i++) {
            taking.take();
        }
        while (taking.calls() < Log.MOST_CALLS - 4) {
            taking.remove(0);
            taking.take();
        }
        tests.due("call 509, about(0)", taking.about(0), 24);
        tests.due("call 510, remove(23)", taking.remove(23), 1);
        tests.due("call 511, take()", taking.take(), 0);
        tests.due("call 512, about(0)", taking.about(0), 24);
        tests.due("calls", taking.calls(), 512);
        Log acting = Log.of("a 1", "b 2");
        while (acting.calls() < Log.MOST_CALLS - 2) {
            acting.learn();
        }
        tests.due("call 511, undo()", acting.undo(), 13);
        tests.due("call 512, about(1)", acting.about(1), 1);
    }

    // Promise 2

    private void append() {
        tests.sentence(2, "c: character code, 0 to 255");
        Sentences.Maker ab = () -> Log.of("ab");
        tests.answers("append(0)", ab, x -> x.append(0), 3);
        tests.answers("append(255)", ab, x -> x.append(255), 3);
        for (int c : new int[] {-1, 256, NONE, LEAST, MOST, 256 + 'a', -256 + 'a', 65536 + 'a'}) {
            tests.refuses("append(" + c + ")", ab, ARGUMENT, x -> x.append(c));
        }
        tests.refuses("append(-1) to an empty text", Log::new, ARGUMENT, x -> x.append(-1));
        tests.refuses("append(256) to an empty text", Log::new, ARGUMENT, x -> x.append(256));

        tests.sentence(2, "Returns the new length of the text.");
        Log log = new Log();
        for (int length = 1; length <= 50; length++) {
            tests.due("append() to length " + length, log.append('a'), length);
        }

        tests.sentence(2, "IllegalStateException if the text already has 50 characters");
        Sentences.Maker fortyNine = () -> new Log().write(textOf('a', 49));
        tests.answers("append('a') to 49 characters", fortyNine, x -> x.append('a'), 50);
        tests.answers("append(0) to 49 characters", fortyNine, x -> x.append(0), 50);
        Sentences.Maker fifty = () -> new Log().write(textOf('a', 50));
        tests.refuses("append('a') to 50 characters", fifty, STATE, x -> x.append('a'));
        tests.refuses("append(0) to 50 characters", fifty, STATE, x -> x.append(0));
        tests.refuses("append(255) to 50 characters", fifty, STATE, x -> x.append(255));
        tests.answers("append('a') when 50 have gone", () -> fifty.make().write(""), x -> x.append('a'), 1);

        tests.sentence(2, "If several exceptions apply to a call, the one that its description names first is thrown.");
        tests.refuses("append(-1) to 50 characters", fifty, ARGUMENT, x -> x.append(-1));
        tests.refuses("append(256) to 50 characters", fifty, ARGUMENT, x -> x.append(256));
    }

    // Promise 3

    private void clearText() {
        tests.sentence(3, "Returns the previous length of the text.");
        for (int length : new int[] {0, 1, 2, 40, 41, 49, 50}) {
            tests.answers("clearText() of " + length, () -> new Log().add(textOf('a', length)), x -> x.clearText(),
                    length);
        }
        tests.answers("clearText() of signs 0", () -> new Log().add("\0\0\0"), x -> x.clearText(), 3);

        tests.sentence(3, "Empties the text buffer.");
        Log log = new Log().add(textOf('a', 50));
        log.clearText();
        tests.due("clearText() once more", log.clearText(), 0);
        tests.due("errorPosition() then", log.errorPosition(), 0);
        tests.due("append(':') then", log.append(':'), 1);
        tests.due("take() of the new text", log.take(), 0);
        tests.dueText("the line", Told.line(log, 0), ":");

        tests.sentence(3, "everything but the text and the save slots");
        Sentences.Maker two = () -> Log.of("a 1", "b 2");
        tests.same("clearText() and append(), and the text at once", two, x -> x.write("b 2").calls(), x -> 0);
    }

    // Promise 4

    private void dueError(String text, int want) {
        tests.answers("errorPosition() of <" + text + ">", () -> new Log().add(text), x -> x.errorPosition(), want);
        if (want == NONE) {
            tests.answers("take() of <" + text + ">", () -> new Log().add(text), x -> x.take(), 0);
        } else {
            tests.answers("which() of <" + text + ">", () -> new Log().add(text), x -> x.which(), NONE);
            tests.refuses("take() of <" + text + ">", () -> new Log().add(text), STATE, x -> x.take());
        }
    }

    private void charactersOfLines() {
        tests.sentence(4, "letters from a to z, digits, blanks, and the signs : and =");
        for (int c = 0; c < 256; c++) {
            boolean allowed = "abcdefghijklmnopqrstuvwxyz0123456789 :=".indexOf(c) >= 0;
            dueError("" + (char) c, allowed ? NONE : 0);
            int code = c;
            tests.answers("errorPosition() of a, " + c + ", b", () -> {
                Log log = new Log().add("a");
                log.append(code);
                return log.add("b");
            }, x -> x.errorPosition(), allowed ? NONE : 1);
        }

        tests.sentence(4, "The error position is the index of the first character that is not one of these");
        dueError("?a", 0);
        dueError("a?", 1);
        dueError("a??", 1);
        dueError("ab 12:=A", 7);
    }

    private void lengthOfLines() {
        tests.sentence(4, "A line has 1 to 40 characters; ... or the 41st character");
        dueError("", 0);
        for (String c : new String[] {"a", "z", "0", "9", " ", ":", "="}) {
            dueError(c, NONE);
        }
        dueError(FORTY.substring(0, 39), NONE);
        dueError(FORTY, NONE);
        dueError(FORTY + "l", 40);
        dueError(FORTY + "lm", 40);
        dueError(FORTY + "lmnopqrstu", 40);
        for (char c : new char[] {'a', ' '}) {
            dueError(textOf(c, 40), NONE);
            dueError(textOf(c, 41), 40);
            dueError(textOf(c, 50), 40);
        }
    }

    private void digitsOfNumbers() {
        tests.sentence(4, "its numbers have at most 6 digits each; ... the seventh digit of a number");
        dueError("999999", NONE);
        dueError("000000", NONE);
        dueError("9999999", 6);
        dueError("0000000", 6);
        dueError("0000001", 6);
        dueError("12345678", 6);
        dueError("a123456", NONE);
        dueError("a1234567", 7);
        dueError("123456 123456:123456=123456a123456", NONE);
        dueError("123456 123456:123456=123456a1234567", 34);
        dueError("123456 1234567 1234567", 13);
        dueError("123456a7", NONE);
    }

    private void piecesOfLines() {
        tests.sentence(4, "A line has at most 12 pieces; ... the first character of a 13th piece");
        dueError("a:b:c:d:e:f", NONE);
        dueError(TWELVE, NONE);
        for (String piece : new String[] {"g", "7", " ", ":", "="}) {
            dueError(TWELVE + piece, 12);
            dueError(TWELVE + piece + "?", 12);
        }
        dueError("a1b2c3d4e5f6", NONE);
        dueError("a1b2c3d4e5f654321", NONE);
        dueError("a1b2c3d4e5f6543210", 17);
        dueError("a1b2c3d4e5f6g", 12);
        dueError("a1b2c3d4e5f6 ", 12);
        dueError("1a2b3c4d5e6fffff", NONE);
        dueError("1a2b3c4d5e6fffff7", 16);
        dueError("a b c d e f     ", NONE);
        dueError("a b c d e f     g", 16);

        tests.sentence(4, "rows of letters, digits and blanks, each as long as possible, and each sign by itself");
        dueError("::::::::::::", NONE);
        dueError(":::::::::::::", 12);
        dueError("============", NONE);
        dueError("=============", 12);
        dueError(":=:=:=:=:=:=", NONE);
        dueError(":=:=:=:=:=:==", 12);
        dueError("aabbccddeeffgghhiijjkkllmm", NONE);
        tests.due("pieces of <aazz>", Log.of("aazz").template(0, 0), 1);
        tests.due("pieces of <0099>", Log.of("0099").template(0, 0), 1);
        tests.due("pieces of <    >", Log.of("    ").template(0, 0), 1);
        tests.due("pieces of <::==>", Log.of("::==").template(0, 0), 4);
        tests.due("pieces of <ab12  :=>", Log.of("ab12  :=").template(0, 0), 5);
        tests.dueText("their kinds", Told.kinds(Log.of("ab12  :="), 0), "03122");
    }

    private void whateverComesFirst() {
        tests.sentence(4, "whatever comes first");
        dueError("1234567?", 6);
        dueError("123456?7", 6);
        dueError("?1234567", 0);
        dueError(TWELVE + "1234567", 12);
        dueError("1a2b3c4d5e6f1234567", 12);
        dueError("1234567" + TWELVE + "g", 6);
        dueError("?" + TWELVE + "gh", 0);
        dueError(TWELVE + "gh?", 12);
        dueError(TWELVE + textOf('g', 38), 12);
        String thirtyThree = textOf('a', 33);
        dueError(thirtyThree + "1234567", 39);
        dueError(thirtyThree + "a1234567", 40);
        dueError(thirtyThree + "aa1234567", 40);
        String thirtyNine = textOf('a', 39);
        dueError(thirtyNine + "?", 39);
        dueError(thirtyNine + "??", 39);
        dueError(thirtyNine + "a?", 40);
        dueError(thirtyNine + "aa?", 40);
        String elevenPieces = textOf('a', 28) + ":::::::::";
        dueError(elevenPieces + "::", NONE);
        dueError(elevenPieces + ":::", 39);
        dueError(textOf('a', 29) + ":::::::::::" + ":", 40);
    }

    private void emptyText() {
        tests.sentence(4, "if the text is empty, it is 0");
        tests.answers("errorPosition() of a new log", Log::new, x -> x.errorPosition(), 0);
        tests.answers("errorPosition() of an emptied text", () -> Log.of("ab").write(""), x -> x.errorPosition(), 0);

        tests.sentence(4, "Returns the error position of the text; NONE if it is a line.");
        tests.due("NONE", LineTemplates.NONE, -9999);
        tests.answers("errorPosition() of <a>", () -> new Log().add("a"), x -> x.errorPosition(), -9999);
        for (String text : new String[] {"", "ab 1", "ab?1", textOf('a', 50)}) {
            Sentences.Maker written = () -> Log.of("ab 2", "cd").write(text);
            tests.changesNothing("errorPosition() of <" + text + ">", written, x -> x.errorPosition());
        }
    }
}
