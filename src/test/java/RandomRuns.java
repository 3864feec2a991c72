import java.util.Random;

/** Runs of up to 512 calls on a LineTemplates and on the plain NaiveLog; every answer must be the same. */
public final class RandomRuns {
    private static final int RUNS = 2500;
    private static final int CALLS = 512;
    private static final String[] WORDS = {"a", "b", "c", "get", "put", "del", "ab", "ba"};

    private final Checks checks = new Checks("RandomRuns");
    private Random random;
    private LineTemplates log;
    private NaiveLog naive;
    private int run;
    private int calls;
    private int style;

    public static void main(String[] args) {
        new RandomRuns().runAll();
    }

    private void runAll() {
        for (run = 0; run < RUNS; run++) {
            random = new Random(run);
            log = new LineTemplates();
            naive = new NaiveLog();
            calls = 0;
            style = run % 6;
            while (calls < CALLS) {
                step();
            }
        }
        checks.close();
    }

    private void same(String call, Checks.Call ours, Checks.Call theirs) {
        calls++;
        if (calls > CALLS) {
            return;
        }
        String got = Checks.outcome(ours);
        String want = Checks.outcome(theirs);
        if (got.equals(want)) {
            checks.due(call, 0, 0);
        } else {
            checks.fail("run " + run + ", call " + calls + ": " + call + " answered " + got + ", due is " + want);
        }
    }

    private void step() {
        int kind = random.nextInt(100);
        if (kind < (style == 5 ? 8 : 16)) {
            writeText(someText());
            same("take()", () -> log.take(), () -> naive.take());
        } else if (kind < 24) {
            writeText(random.nextInt(3) == 0 ? someGarbage() : someText());
        } else if (kind < 60) {
            act();
        } else {
            ask();
        }
    }

    private void writeText(String text) {
        if (random.nextInt(8) > 0) {
            same("clearText()", () -> log.clearText(), () -> naive.clearText());
        }
        for (int k = 0; k < text.length(); k++) {
            int c = text.charAt(k);
            same("append(" + c + ")", () -> log.append(c), () -> naive.append(c));
        }
        askText();
    }

    private void askText() {
        same("errorPosition()", () -> log.errorPosition(), () -> naive.errorPosition());
        same("which()", () -> log.which(), () -> naive.which());
        same("wouldCost()", () -> log.wouldCost(), () -> naive.wouldCost());
    }

    private String someText() {
        switch (style) {
            case 0:
                return word() + " " + number(2);
            case 1:
                return word() + ":" + word();
            case 2:
                return word() + " " + word() + (random.nextBoolean() ? "=" : ":") + number(6);
            case 3:
                return number(6) + (random.nextBoolean() ? word() : " ") + number(1);
            case 4:
                return word() + (random.nextBoolean() ? " " : "  ") + word() + number(1);
            default:
                return "" + "abcdefghijklmnopqrstuvwxyz:= 0".charAt(random.nextInt(30));
        }
    }

    private String someGarbage() {
        StringBuilder text = new StringBuilder();
        int length = random.nextInt(random.nextBoolean() ? 14 : 52);
        String signs = random.nextInt(3) == 0 ? "ab01 :="
                : random.nextBoolean() ? "aaaaaaaaab   1" : "0123456789zy :=;A{/@\u00ff";
        while (text.length() < length) {
            text.append(signs.charAt(random.nextInt(signs.length())));
        }
        return text.toString();
    }

    private String word() {
        return WORDS[random.nextInt(style == 1 ? 8 : 4)];
    }

    private String number(int digits) {
        switch (random.nextInt(4)) {
            case 0:
                return "" + random.nextInt(12);
            case 1:
                return "0" + random.nextInt(4);
            case 2:
                return "999999".substring(0, 1 + random.nextInt(digits));
            default:
                return "" + calls % 100;
        }
    }

    private int lineIndex() {
        return random.nextInt(12) == 0 ? random.nextInt(40) - 8 : random.nextInt(Math.max(1, naive.about(0)));
    }

    private int templateIndex() {
        return random.nextInt(12) == 0 ? random.nextInt(30) - 8 : random.nextInt(Math.max(1, naive.about(1)));
    }

    private int pieceIndex() {
        return random.nextInt(12) == 0 ? random.nextInt(30) - 8 : random.nextInt(5);
    }

    private void act() {
        int i = lineIndex();
        int t = templateIndex();
        int p = pieceIndex();
        switch (random.nextInt(18)) {
            case 0: case 1: case 2: case 3: case 4:
                same("again(" + i + ")", () -> log.again(i), () -> naive.again(i));
                break;
            case 5: case 6:
                same("remove(" + i + ")", () -> log.remove(i), () -> naive.remove(i));
                break;
            case 7: case 8:
                same("learn()", () -> log.learn(), () -> naive.learn());
                break;
            case 9:
                same("learnAll()", () -> log.learnAll(), () -> naive.learnAll());
                break;
            case 10: case 11:
                same("open(" + t + ", " + p + ")", () -> log.open(t, p), () -> naive.open(t, p));
                break;
            case 12:
                same("forget()", () -> log.forget(), () -> naive.forget());
                break;
            case 13:
                same("save(" + (i & 3) + ")", () -> log.save(i & 3), () -> naive.save(i & 3));
                break;
            case 14:
                same("restore(" + (i & 3) + ")", () -> log.restore(i & 3), () -> naive.restore(i & 3));
                break;
            case 15:
                same("undo()", () -> log.undo(), () -> naive.undo());
                break;
            default:
                undoSome();
        }
    }

    private void undoSome() {
        int times = random.nextInt(10) == 0 ? 16 : random.nextInt(3);
        for (int k = 0; k < times; k++) {
            same("undo()", () -> log.undo(), () -> naive.undo());
        }
    }

    private void ask() {
        int i = lineIndex();
        int t = templateIndex();
        int p = pieceIndex();
        int what = random.nextInt(10) - 1;
        int k = random.nextInt(14) - 1;
        switch (random.nextInt(14)) {
            case 0:
                same("about(" + what + ")", () -> log.about(what), () -> naive.about(what));
                break;
            case 1:
                same("line(" + i + ", " + what + ")", () -> log.line(i, what), () -> naive.line(i, what));
                break;
            case 2:
                same("charAt(" + i + ", " + k + ")", () -> log.charAt(i, k), () -> naive.charAt(i, k));
                break;
            case 3:
                same("value(" + i + ", " + p + ")", () -> log.value(i, p), () -> naive.value(i, p));
                break;
            case 4:
                same("template(" + t + ", " + what + ")", () -> log.template(t, what), () -> naive.template(t, what));
                break;
            case 5:
                same("piece(" + t + ", " + p + ", " + what % 4 + ")", () -> log.piece(t, p, what % 4),
                        () -> naive.piece(t, p, what % 4));
                break;
            case 6:
                same("rises(" + t + ", " + p + ")", () -> log.rises(t, p), () -> naive.rises(t, p));
                break;
            case 7:
                same("saves()", () -> log.saves(), () -> naive.saves());
                break;
            case 8:
                same("next(" + t + ", " + k + ")", () -> log.next(t, k), () -> naive.next(t, k));
                break;
            case 9:
                int v = random.nextInt(5) == 0 ? 999999 + what - 4 : random.nextInt(16) - 1;
                same("withValue(" + v + ")", () -> log.withValue(v), () -> naive.withValue(v));
                break;
            case 10: case 11:
                askScript();
                break;
            case 12:
                long seed = random.nextLong();
                int m = random.nextInt(32);
                same("simulate(" + seed + ", " + m + ")", () -> log.simulate(seed, m), () -> naive.simulate(seed, m));
                break;
            default:
                askText();
        }
    }

    private void askScript() {
        int n = random.nextInt(10) == 0 ? random.nextInt(7) - 1 : 1 + random.nextInt(4);
        long script = random.nextInt(20) == 0 ? random.nextLong() : 0;
        for (int c = 0; c < n && script >= 0 && script < 1000000000000L; c++) {
            script = script * 10000 + someCommand();
        }
        long whole = script;
        same("runScript(" + n + ", " + whole + ")", () -> log.runScript(n, whole), () -> naive.runScript(n, whole));
    }

    private int someCommand() {
        int line = Math.floorMod(lineIndex(), 100);
        int slip = random.nextInt(12) == 0 ? 1 + random.nextInt(999) : 0;
        switch (1 + random.nextInt(9)) {
            case 1:
                return 1000 + line * 10 + slip % 2;
            case 2:
                return 2000 + line * 10 + slip % 2;
            case 3:
                return 3000 + slip;
            case 4:
                return 4000 + slip;
            case 5:
                return 5000 + random.nextInt(4) * 100 + random.nextInt(4) * 10 + slip % 2;
            case 6:
                return 6000 + slip;
            case 7:
                return 7000 + naive.about(1) - random.nextInt(3) % 2 * Integer.signum(naive.about(1)) + slip % 2 * 100;
            case 8:
                int costs = naive.about(3) + naive.about(4);
                return 8000 + Math.floorMod(costs + random.nextInt(3) - 1, 1000);
            default:
                return random.nextInt(3) == 0 ? random.nextInt(1000) : 9000 + line * 10 + random.nextInt(3);
        }
    }
}
