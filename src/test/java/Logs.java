/** Logs that are full, and logs of which every part can be told apart. */
final class Logs {
    static final String FORTY = "abcdefghij klmnopqrst uvwxyzabcd efghijk";
    /** Both have 40 characters and 12 pieces, six of them words of one letter; together they need no step twice. */
    static final String DEAR_ONE = "100000a100000b100000c100000d100000e1000f";
    static final String DEAR_TWO = "300001a300001b300001c300001d300001e3001f";

    private Logs() {
    }

    /** Twelve templates of one line and one word each. */
    static Log ofTwelveTemplates() {
        return Log.of("a", "b", "c", "d", "e", "f", "g", "h", "i", "j", "k", "l");
    }

    static Log ofElevenTemplates() {
        return Log.of("a", "b", "c", "d", "e", "f", "g", "h", "i", "j", "k");
    }

    /** Twelve templates of one line each, none of which can be learned from. */
    static Log ofTwelveUnlike() {
        return Log.of("a", "1", " ", ":", "=", "  ", "   ", "a1", "1a", " 1", "1 ", "a ");
    }

    static Log ofLines(int lines) {
        return Log.of("a 1").repeat(0, lines - 1);
    }

    /** A log with three lines, two templates, a text that is no line, remembered states, and slot 1 saved. */
    static Log worn() {
        Log log = Log.of("get a 1", "put b 2");
        log.save(1);
        log.write("get a 5").take();
        return log.write("get c?");
    }

    /** As many lines as told, by turns DEAR_ONE and DEAR_TWO, of one template whose words are all slots. */
    static Log ofDearLines(int lines) {
        Log log = Log.of(DEAR_ONE);
        for (int p = 1; p < 12; p += 2) {
            log.open(0, p);
        }
        log.write(DEAR_TWO);
        for (int i = 1; i < lines; i++) {
            if (i == 1) {
                log.take();
            } else {
                log.again(i - 2);
            }
        }
        return log;
    }
}
