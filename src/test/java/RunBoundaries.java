/** The boundaries that promises 25 to 28 name: scripts, simulations and save slots. */
public final class RunBoundaries {
    private static final int NONE = Log.NONE;
    private static final int LEAST = Integer.MIN_VALUE;
    private static final int MOST = Integer.MAX_VALUE;
    private static final Class<IllegalArgumentException> ARGUMENT = IllegalArgumentException.class;
    private static final Class<IllegalStateException> STATE = IllegalStateException.class;
    private static final Class<IndexOutOfBoundsException> INDEX = IndexOutOfBoundsException.class;

    private final Sentences tests = new Sentences("RunBoundaries");

    public static void main(String[] args) {
        RunBoundaries all = new RunBoundaries();
        all.scriptCommands();
        all.scriptDigits();
        all.scriptGroups();
        all.scriptLines();
        all.scriptLearning();
        all.scriptOpening();
        all.scriptForgetting();
        all.scriptTests();
        all.scriptAnswers();
        all.simulateRange();
        all.simulateCosts();
        all.simulateRoom();
        all.simulateLines();
        all.running();
        all.save();
        all.restore();
        all.restoreState();
        all.tests.close();
    }

    // Promise 25

    private void scriptCommands() {
        tests.sentence(25, "IllegalArgumentException if n is out of range; n: number of commands, 1 to 4");
        tests.answers("runScript(1, 4000)", Logs::worn, x -> x.runScript(1, 4000), NONE);
        tests.answers("runScript(2, ..)", Logs::worn, x -> x.runScript(2, 40004000), NONE);
        tests.answers("runScript(3, ..)", Logs::worn, x -> x.runScript(3, 400040004000L), NONE);
        tests.answers("runScript(4, ..)", Logs::worn, x -> x.runScript(4, 4000400040004000L), NONE);
        for (int n : new int[] {0, 5, 6, -1, -4, NONE, LEAST, MOST}) {
            tests.refuses("runScript(" + n + ", 0)", Logs::worn, ARGUMENT, x -> x.runScript(n, 0));
            tests.refuses("runScript(" + n + ", 4000)", Logs::worn, ARGUMENT, x -> x.runScript(n, 4000));
            tests.refuses("runScript(" + n + ", -1)", Logs::worn, ARGUMENT, x -> x.runScript(n, -1));
        }
    }

    private void scriptDigits() {
        tests.sentence(25, "or if script is negative or has more than 4 * n digits");
        long[] most = {9999L, 99999999L, 999999999999L, 9999999999999999L};
        for (int i = 0; i < 4; i++) {
            int n = i + 1;
            long last = most[i];
            tests.answers("runScript(" + n + ", 0)", Logs::worn, x -> x.runScript(n, 0), 0);
            tests.answers("runScript(" + n + ", 1)", Logs::worn, x -> x.runScript(n, 1), 0);
            tests.answers("runScript(" + n + ", " + last + ")", Logs::worn, x -> x.runScript(n, last), 0);
            for (long script : new long[] {last + 1, last + 4001, 10 * last + 9, Long.MAX_VALUE, -1, -4000,
                    Long.MIN_VALUE}) {
                tests.refuses("runScript(" + n + ", " + script + ")", Logs::worn, ARGUMENT,
                        x -> x.runScript(n, script));
            }
        }

        tests.sentence(25, "the first command is the highest group of the number (with zeros before it, if it has "
                + "fewer digits)");
        tests.answers("0000 4000", Logs::worn, x -> x.runScript(2, 4000), 0);
        tests.answers("0000 0000 0000 4000", Logs::worn, x -> x.runScript(4, 4000), 0);
        tests.answers("4000 0000", Logs::worn, x -> x.runScript(2, 40000000), 1);
        tests.answers("0400 0400", Logs::worn, x -> x.runScript(2, 4000400), 0);
        tests.answers("9000 4000", Logs::worn, x -> x.runScript(2, 90004000), NONE);
    }

    private void fails(String what, Sentences.Maker maker, int... groups) {
        for (int group : groups) {
            tests.answers(what + " " + group, maker, x -> x.runScript(1, group), 0);
        }
    }

    private void succeeds(String what, Sentences.Maker maker, int... groups) {
        for (int group : groups) {
            tests.answers(what + " " + group, maker, x -> x.runScript(1, group), NONE);
        }
    }

    private void scriptGroups() {
        tests.sentence(25, "and so does any other group (also one with another digit where a 0 is written)");
        fails("0", Logs::worn, 0, 1, 9, 10, 100, 999);
        fails("1 i i 0", Logs::worn, 1001, 1009, 1011, 1021);
        fails("2 i i 0", Logs::worn, 2001, 2009, 2011, 2021);
        fails("3 0 0 0", Log::new, 3000);
        fails("3 0 0 0", () -> Log.of("a", "b"), 3001, 3009, 3010, 3090, 3100, 3900);
        fails("4 0 0 0", Logs::worn, 4001, 4009, 4010, 4090, 4100, 4900);
        fails("5 t p 0", Logs::worn, 5001, 5009, 5021, 5101);
        fails("6 0 0 0", Logs::worn, 6001, 6009, 6010, 6090, 6100, 6900);
        fails("7 0 n n", Logs::worn, 7100, 7102, 7199, 7902, 7999);
        // No group fails without a reason: the same ones with zeros succeed.
        succeeds("with zeros", () -> Log.of("a", "b"), 1000, 2000, 3000, 4000, 5000, 6000, 7002, 8004, 9000);
        fails("command 0 on a new log", Log::new, 0);
    }

    private void scriptLines() {
        tests.sentence(25, "1 i i 0: again(ii). 2 i i 0: remove(ii). The commands 1 to 6 fail if the method would "
                + "throw an exception; commands with lines, templates or pieces that do not exist fail");
        succeeds("again", Logs::worn, 1000, 1010, 1020);
        fails("again", Logs::worn, 1030, 1040, 1100, 1230, 1240, 1990);
        succeeds("remove", Logs::worn, 2000, 2010, 2020);
        fails("remove", Logs::worn, 2030, 2040, 2100, 2230, 2240, 2990);
        fails("of a new log", Log::new, 1000, 2000, 1990, 2990);
        succeeds("of 23 lines", () -> Logs.ofLines(23), 1000, 1220, 2000, 2220);
        fails("of 23 lines", () -> Logs.ofLines(23), 1230, 2230);
        succeeds("of 24 lines", () -> Logs.ofLines(24), 2000, 2230);
        fails("of 24 lines", () -> Logs.ofLines(24), 1000, 1230, 1240, 2240);
        tests.answers("the 24th line, and one more", () -> Logs.ofLines(23), x -> x.runScript(2, 10001000), 1);
        tests.answers("the 23rd line and the 24th", () -> Logs.ofLines(22), x -> x.runScript(2, 10001000), NONE);
        tests.answers("line 23, which is new", () -> Logs.ofLines(23), x -> x.runScript(2, 10002230), NONE);
        tests.answers("line 23, which has gone", () -> Logs.ofLines(24), x -> x.runScript(2, 20002230), 1);
        tests.answers("all of 2 lines, and one more", () -> Logs.ofLines(2), x -> x.runScript(3, 200020002000L), 2);
        tests.answers("again() gets the first template that it fits", () -> Log.of("a", "b"),
                x -> x.runScript(3, 500010109020L), NONE);
        tests.answers("and not the one it has", () -> Log.of("a", "b"), x -> x.runScript(3, 500010109021L), 2);
    }

    private void scriptLearning() {
        tests.sentence(25, "3 0 0 0: learn() (fails if it would return NONE). 4 0 0 0: learnAll().");
        fails("learn", Log::new, 3000);
        fails("learn of 12 unlike", Logs::ofTwelveUnlike, 3000);
        succeeds("learn of two", () -> Log.of("a", "b"), 3000);
        tests.answers("learn twice of two", () -> Log.of("a", "b"), x -> x.runScript(2, 30003000), 1);
        tests.answers("learn twice of three", () -> Log.of("a", "b", "c"), x -> x.runScript(2, 30003000), NONE);
        tests.answers("learn and 11 templates", Logs::ofTwelveTemplates, x -> x.runScript(2, 30007011), NONE);
        tests.answers("learn and 10 templates", Logs::ofTwelveTemplates, x -> x.runScript(2, 30007010), 1);
        succeeds("learnAll", Log::new, 4000);
        succeeds("learnAll of 12 unlike", Logs::ofTwelveUnlike, 4000);
        tests.answers("learnAll and 1 template", Logs::ofTwelveTemplates, x -> x.runScript(2, 40007001), NONE);
        tests.answers("learnAll and 0 templates", Logs::ofTwelveTemplates, x -> x.runScript(2, 40007000), 1);
        tests.answers("learnAll and learn", Logs::ofTwelveTemplates, x -> x.runScript(2, 40003000), 1);
    }

    private void scriptOpening() {
        tests.sentence(25, "5 t p 0: open(t, p), with t and p from 0 to 9");
        Sentences.Maker kinds = () -> Log.of("a 1:b", "::::::::::cd", ":::::::::cd:");
        succeeds("open", kinds, 5000, 5040, 5290);
        fails("open what is no fixed word", kinds, 5010, 5020, 5030, 5100, 5190, 5280);
        fails("open no such piece", kinds, 5050, 5060, 5090);
        fails("open in no such template", kinds, 5300, 5340, 5390, 5900, 5990);
        fails("open in a new log", Log::new, 5000, 5990);
        Sentences.Maker twelve = () -> Log.of("1", " ", ":", "=", "  ", "   ", "a1", "1a", " 1", ":::::::::z", "y",
                "x");
        succeeds("open in template 9", twelve, 5990, 5600, 5710);
        fails("open in template 9", twelve, 5900, 5980, 5890, 5090);
        tests.answers("open twice", () -> Log.of("a"), x -> x.runScript(2, 50005000), 1);
        tests.answers("the cost of what is open", () -> Log.of("abc"), x -> x.runScript(3, 500080058004L), 2);
    }

    private void scriptForgetting() {
        tests.sentence(25, "6 0 0 0: forget().");
        succeeds("forget of no lines", Log::new, 6000);
        succeeds("forget of 12", Logs::ofTwelveTemplates, 6000);
        Sentences.Maker thirteen = () -> {
            Log log = Logs.ofTwelveTemplates();
            log.learn();
            log.write("m").take();
            return log;
        };
        fails("forget of 13", thirteen, 6000);
        tests.answers("forget when one of 13 has gone", thirteen, x -> x.runScript(3, 200060007012L), NONE);
        tests.answers("12 templates then", thirteen, x -> x.runScript(3, 200060007011L), 2);
        tests.answers("learn and forget", () -> Log.of("a", "b"), x -> x.runScript(4, 3000600070027001L), 3);
    }

    private void scriptTests() {
        tests.sentence(25, "7 0 n n: succeeds if there are at most nn templates");
        succeeds("of a new log", Log::new, 7000, 7001, 7099);
        fails("of one template", () -> Log.of("a"), 7000);
        succeeds("of one template", () -> Log.of("a"), 7001, 7002, 7010, 7099);
        fails("of 12 templates", Logs::ofTwelveTemplates, 7000, 7001, 7009, 7010, 7011);
        succeeds("of 12 templates", Logs::ofTwelveTemplates, 7012, 7013, 7020, 7099);
        fails("of 11 templates", Logs::ofElevenTemplates, 7010);
        succeeds("of 11 templates", Logs::ofElevenTemplates, 7011);

        tests.sentence(25, "8 x x x: succeeds if all costs together, of lines and templates, are at most xxx");
        succeeds("of a new log", Log::new, 8000, 8001, 8999);
        fails("of 2", () -> Log.of(":"), 8000, 8001);
        succeeds("of 2", () -> Log.of(":"), 8002, 8003, 8999);
        fails("of 200", () -> ofCost(200), 8000, 8020, 8100, 8199);
        succeeds("of 200", () -> ofCost(200), 8200, 8201, 8210, 8300);
        for (int cost = 997; cost <= 1001; cost++) {
            int due = cost;
            tests.answers("costs", () -> ofCost(due), x -> x.about(3) + x.about(4), due);
            tests.answers("8999 of " + due, () -> ofCost(due), x -> x.runScript(1, 8999), due <= 999 ? NONE : 0);
            tests.answers("8998 of " + due, () -> ofCost(due), x -> x.runScript(1, 8998), due <= 998 ? NONE : 0);
        }

        tests.sentence(25, "9 i i t: succeeds if the line ii has the template t");
        succeeds("of 3 lines", Logs::worn, 9000, 9011, 9020);
        fails("of 3 lines", Logs::worn, 9001, 9002, 9009, 9010, 9012, 9021, 9022);
        fails("no such line", Logs::worn, 9030, 9031, 9040, 9100, 9240, 9990, 9999);
        fails("no line", Log::new, 9000, 9999);
        succeeds("of 12 templates", Logs::ofTwelveTemplates, 9000, 9088, 9099);
        fails("of 12 templates", Logs::ofTwelveTemplates, 9100, 9101, 9110, 9111, 9120, 9098);
        succeeds("of 24 lines", () -> Logs.ofLines(24), 9230);
        fails("of 24 lines", () -> Logs.ofLines(24), 9240, 9231);
    }

    /** A log of two templates whose costs are 200, or from 997 to 1001, all together. */
    private static Log ofCost(int cost) {
        Log log = Logs.ofDearLines(cost == 200 ? 4 : 23);
        int rest = cost - log.about(3) - log.about(4);
        // A line with a new template costs 1, its length, and 1 for each of its numbers.
        int numbers = cost == 200 ? 0 : rest - 41;
        StringBuilder line = new StringBuilder("z".repeat(cost == 200 ? rest - 1 : 40 - 2 * numbers));
        for (int i = 0; i < numbers; i++) {
            line.append("1:");
        }
        log.write(line.toString()).take();
        return log;
    }

    private void scriptAnswers() {
        tests.sentence(25, "Returns the index, from 0, of the first command that fails; NONE if all succeed.");
        tests.answers("the first", Logs::worn, x -> x.runScript(4, 9999400040004000L), 0);
        tests.answers("the second", Logs::worn, x -> x.runScript(4, 4000999940004000L), 1);
        tests.answers("the third", Logs::worn, x -> x.runScript(4, 4000400099994000L), 2);
        tests.answers("the fourth", Logs::worn, x -> x.runScript(4, 4000400040009999L), 3);
        tests.answers("none", Logs::worn, x -> x.runScript(4, 4000400040004000L), NONE);
        tests.answers("the first of four", Logs::worn, x -> x.runScript(4, 0), 0);
        tests.answers("the second of four", Logs::worn, x -> x.runScript(4, 4000000000000000L), 1);
        tests.answers("the only one", Logs::worn, x -> x.runScript(1, 9999), 0);
    }

    // Promise 26

    private void simulateRange() {
        tests.sentence(26, "IllegalArgumentException if m is out of range; m: number of lines, 1 to 30");
        for (int m : new int[] {0, 31, 32, -1, -30, NONE, LEAST, MOST}) {
            tests.refuses("simulate(0, " + m + ")", Logs::worn, ARGUMENT, x -> x.simulate(0, m));
            tests.refuses("simulate(-1, " + m + ")", Log::new, ARGUMENT, x -> x.simulate(-1, m));
        }
        // From 0, x is 1442695040888963407, and r is 167951807: the line is "cc 9:n", it costs 2, its template 6.
        tests.answers("simulate(0, 1)", Log::new, x -> x.simulate(0, 1), 1008);

        tests.sentence(26, "seed: any long");
        long[] seeds = {0, 1, -1, 2, Long.MAX_VALUE, Long.MIN_VALUE, Integer.MAX_VALUE, Integer.MIN_VALUE, 1L << 32};
        for (long seed : seeds) {
            for (int m : new int[] {1, 2, 29, 30}) {
                dueSimulated(Log::new, seed, m);
            }
        }
    }

    private void simulateCosts() {
        tests.sentence(26, "1000 * (the number of templates at the end) + (the costs of all lines and templates "
                + "together at the end, or 999 if more)");
        for (int cost = 997; cost <= 1001; cost++) {
            int due = cost;
            // There are 24 lines, so the simulated one is left out; and nothing can be learned.
            tests.answers("simulate(0, 1) of " + due, () -> ofCost(due), x -> x.simulate(0, 1),
                    2000 + Math.min(due, 999));
        }
        tests.answers("simulate(0, 1) of 24 alike", () -> Logs.ofLines(24), x -> x.simulate(0, 1), 1000 + 24 * 2 + 3);
        // The line of seed 0 is the 24th: it costs 2, and its template 6.
        tests.answers("simulate(0, 1) of 23 alike", () -> Logs.ofLines(23), x -> x.simulate(0, 1),
                2000 + 23 * 2 + 3 + 8);
        tests.answers("simulate(0, 30) of 12 unlike", Logs::ofTwelveUnlike, x -> x.simulate(0, 30) / 1000, 12);
    }

    private void simulateRoom() {
        tests.sentence(26, "It is taken, if that is possible; if it is not, learnAll() is done, and the line is left "
                + "out.");
        // Twelve words that cost 1 and 1 each become one slot, and their lines cost 2 each.
        tests.answers("simulate(0, 1) of 12 words", Logs::ofTwelveTemplates, x -> x.simulate(0, 1), 1000 + 1 + 24);
        tests.answers("simulate(0, 1) of 11 words", Logs::ofElevenTemplates, x -> x.simulate(0, 1), 12000 + 22 + 8);
        Sentences.Maker full = () -> Log.of("a", "b").repeat(0, 22);
        tests.answers("simulate(0, 1) of 24 lines", full, x -> x.simulate(0, 1), 1000 + 1 + 24 * 2);
        tests.answers("simulate(0, 30) of 24 lines", full, x -> x.simulate(0, 30), 1000 + 1 + 24 * 2);
        Sentences.Maker one = () -> Log.of("a", "b").repeat(0, 21);
        tests.answers("simulate(0, 1) of 23 lines", one, x -> x.simulate(0, 1), 3000 + 2 + 23 + 8);
        tests.answers("simulate(0, 2) of 23 lines", one, x -> x.simulate(0, 2), 2000 + 1 + 23 * 2 + 8);
        for (long seed = 0; seed < 12; seed++) {
            for (int m : new int[] {1, 2, 23, 24, 25, 30}) {
                dueSimulated(Log::new, seed, m);
                dueSimulated(() -> Log.of("aa 7=m", "b"), seed, m);
            }
            for (int m : new int[] {1, 2, 12, 13, 30}) {
                dueSimulated(Logs::ofElevenTemplates, seed, m);
                dueSimulated(() -> Log.of("a", "b").repeat(0, 20), seed, m);
            }
        }
    }

    private void simulateLines() {
        tests.sentence(26, "(r / 4 % 3)th one from a twice, one blank, the digits of v, = if r / 16 % 4 is 0, otherwise "
                + ":, (r / 64 % 5)th one from m; a blank and the digits of r / 512 % 50, if r / 32768 % 2 is 0");
        for (long seed = 100; seed < 400; seed++) {
            long x = seed * seed * seed;
            int r = (int) (x * 6364136223846793005L + 1442695040888963407L >>> 33);
            dueSimulated(Log::new, x, 1);
            // Words and signs are told from others by the template that the line gets.
            dueSimulated(() -> Log.of(lineOf(r, 7 + r % 3)), x, 1);
            tests.answers("templates of <" + lineOf(r, 7) + "> and simulate(" + x + ", 1)",
                    () -> Log.of(lineOf(r, 7)), y -> y.simulate(x, 1) / 1000, 1);
        }
        for (long seed = 1; seed < 100; seed++) {
            dueSimulated(Log::new, seed << 40, 8);
        }
    }

    private static String lineOf(int r, int v) {
        int letter = r / 4 % 3;
        return "aabbcc".substring(2 * letter, 2 * letter + 2) + " " + v + "=:::".charAt(r / 16 % 4)
                + "mnopq".charAt(r / 64 % 5) + (r / 32768 % 2 == 0 ? " " + r / 512 % 50 : "");
    }

    /** The simulation answers what taking its lines, and learning when that is refused, comes to. */
    private void dueSimulated(Sentences.Maker maker, long seed, int m) {
        Log log = maker.make();
        long x = seed;
        int v = 7;
        for (int i = 0; i < m; i++) {
            x = x * 6364136223846793005L + 1442695040888963407L;
            int r = (int) (x >>> 33);
            v += r % 3;
            String line = lineOf(r, v);
            if (!Told.outcome(log.write(line), y -> y.take()).matches("[0-9]+")) {
                log.learnAll();
            }
        }
        int want = 1000 * log.about(1) + Math.min(999, log.about(3) + log.about(4));
        tests.answers("simulate(" + seed + ", " + m + ")", maker, y -> y.simulate(seed, m), want);
    }

    private void running() {
        tests.sentence(26, "Runs a script on a copy of the state. / Simulates m lines on a copy of the state. / change "
                + "nothing");
        Sentences.Maker[] makers = {Logs::worn, Log::new, () -> Logs.ofLines(24), Logs::ofTwelveTemplates};
        for (Sentences.Maker maker : makers) {
            for (long script : new long[] {1000, 2000, 3000, 4000, 5000, 6000, 7000, 8000, 9000, 0}) {
                tests.changesNothing("runScript(1, " + script + ")", maker, x -> x.runScript(1, script));
            }
            tests.changesNothing("runScript() of four", maker, x -> x.runScript(4, 1000300050006000L));
            tests.changesNothing("runScript() that removes", maker, x -> x.runScript(4, 2000200020002000L));
            tests.changesNothing("simulate(0, 1)", maker, x -> x.simulate(0, 1));
            tests.changesNothing("simulate(7, 30)", maker, x -> x.simulate(7, 30));
        }
    }

    // Promise 27

    private void save() {
        tests.sentence(27, "IndexOutOfBoundsException if there is no such save slot");
        tests.answers("save(0)", Logs::worn, x -> x.save(0), 3);
        tests.answers("save(1)", Logs::worn, x -> x.save(1), 3);
        for (int slot : new int[] {-1, 2, 3, NONE, LEAST, MOST}) {
            tests.refuses("save(" + slot + ")", Logs::worn, INDEX, x -> x.save(slot));
            tests.refuses("save(" + slot + ") of a new log", Log::new, INDEX, x -> x.save(slot));
        }

        tests.sentence(27, "Returns the number of lines.");
        for (int lines : new int[] {1, 2, 23, 24}) {
            tests.answers("save(0) of " + lines, () -> Logs.ofLines(lines), x -> x.save(0), lines);
        }
        tests.answers("save(1) of a new log", Log::new, x -> x.save(1), 0);

        tests.sentence(27, "Stores the present state in a save slot.");
        Log log = Log.of("a");
        log.save(0);
        log.write("b").take();
        log.save(1);
        log.write("c").take();
        tests.due("restore(0)", log.restore(0), 1);
        tests.due("restore(1)", log.restore(1), 2);
        log.write("d").take();
        tests.due("save(0) once more", log.save(0), 3);
        tests.due("restore(1) is as it was", log.restore(1), 2);
        tests.due("restore(0) is the later one", log.restore(0), 3);
        Log undone = Log.of("a", "b");
        undone.save(0);
        tests.due("undo() behind save(), which is no action", undone.undo(), 1);
        tests.due("lines then", undone.about(0), 1);
        tests.due("the slot has both", undone.restore(0), 2);
    }

    // Promise 28

    private void restore() {
        tests.sentence(28, "IndexOutOfBoundsException if there is no such save slot");
        Sentences.Maker both = () -> {
            Log log = Log.of("a", "b");
            log.save(0);
            log.remove(0);
            log.save(1);
            return log;
        };
        tests.answers("restore(0)", both, x -> x.restore(0), 2);
        tests.answers("restore(1)", both, x -> x.restore(1), 1);
        for (int slot : new int[] {-1, 2, 3, NONE, LEAST, MOST}) {
            tests.refuses("restore(" + slot + ")", both, INDEX, x -> x.restore(slot));
        }

        tests.sentence(28, "IllegalStateException if nothing has been saved in it");
        tests.refuses("restore(0) of nothing", () -> Log.of("a"), STATE, x -> x.restore(0));
        tests.refuses("restore(1) of nothing", () -> Log.of("a"), STATE, x -> x.restore(1));
        tests.refuses("restore(0), saved in 1", Logs::worn, STATE, x -> x.restore(0));
        tests.answers("restore(1), saved in 1", Logs::worn, x -> x.restore(1), 2);
        tests.refuses("restore(1), saved in 0", () -> {
            Log log = Log.of("a");
            log.save(0);
            return log.write("b c");
        }, STATE, x -> x.restore(1));
        tests.answers("restore(0) of a new log that was saved", Log::new, x -> x.save(0) + x.restore(0), 0);

        tests.sentence(28, "If several exceptions apply to a call, the one that its description names first is "
                + "thrown.");
        tests.refuses("restore(-1) of nothing", () -> Log.of("a"), INDEX, x -> x.restore(-1));
        tests.refuses("restore(2) of nothing", () -> Log.of("a"), INDEX, x -> x.restore(2));
    }

    private void restoreState() {
        tests.sentence(28, "Returns the number of lines then.");
        for (int lines : new int[] {1, 23, 24}) {
            tests.answers("restore(1) of " + lines, () -> Logs.ofLines(lines),
                    x -> x.save(1) * 0 + x.remove(0) * 0 + x.restore(1), lines);
        }
        Log none = new Log();
        none.save(0);
        none.write("a").take();
        tests.due("restore(0) of no lines", none.restore(0), 0);
        tests.due("templates then", none.about(1), 0);
        tests.dueText("the text stays", none.clearText() + "", "1");

        tests.sentence(28, "and forgets all remembered states");
        Sentences.Maker restored = () -> {
            Log log = Logs.ofLines(20);
            log.save(0);
            log.again(0);
            log.restore(0);
            return log;
        };
        tests.refuses("undo()", restored, STATE, x -> x.undo());
        tests.answers("undo() of an action behind it", restored, x -> x.again(0) * 0 + x.undo(), 0);
        tests.answers("lines then", restored, x -> x.again(0) * 0 + x.undo() + x.about(0), 20);
        Log many = restored.make();
        for (int i = 0; i < 15; i++) {
            many.learn();
        }
        tests.due("14 states are remembered again", many.undo(), 13);

        tests.sentence(28, "Replaces the state by the one in a save slot ... The save slot keeps it.");
        Sentences.Maker saved = () -> {
            Log log = Log.of("get a 1", "put a 2", "get b 3");
            log.learn();
            log.save(0);
            return log;
        };
        tests.same("restore(0) behind other actions, and at once", saved, x -> {
            x.remove(0);
            x.learnAll();
            openFirstWord(x);
            x.forget();
            x.again(0);
            return x.restore(0);
        }, x -> x.restore(0));
        tests.same("restore(0) twice, and once", saved, x -> {
            x.restore(0);
            x.open(0, 2);
            x.remove(2);
            return x.restore(0);
        }, x -> x.restore(0));
        tests.same("restore(0) behind undo(), and at once", saved, x -> {
            x.undo();
            x.undo();
            return x.restore(0);
        }, x -> x.restore(0));
    }

    private static void openFirstWord(Log log) {
        int p = 0;
        while (log.piece(0, p, 0) != 0) {
            p++;
        }
        log.open(0, p);
    }
}
