import java.util.ArrayDeque;
import java.util.ArrayList;
import java.util.Deque;
import java.util.HashSet;
import java.util.List;
import java.util.Set;
import java.util.regex.Matcher;
import java.util.regex.Pattern;

/** The document's log once more, written plainly with texts, patterns and lists, to compare answers with. */
final class NaiveLog {
    static final int NONE = -9999;
    private static final Pattern PIECE = Pattern.compile("[a-z]+|[0-9]+| +|[:=]");
    private static final String NUMBER_SLOT = "<number>";
    private static final String WORD_SLOT = "<word>";

    /** A template is a row of texts: pieces as they stand, or one of the two slots. */
    private static final class State {
        List<String> lines = new ArrayList<>();
        List<List<String>> templateOf = new ArrayList<>();
        List<List<String>> templates = new ArrayList<>();

        State copy() {
            State copy = new State();
            copy.lines.addAll(lines);
            for (List<String> template : templates) {
                copy.templates.add(new ArrayList<>(template));
            }
            for (int i = 0; i < lines.size(); i++) {
                copy.templateOf.add(copy.templates.get(templateIndex(i)));
            }
            return copy;
        }

        // By identity, since two templates can be equal.
        int templateIndex(int i) {
            return indexOf(templateOf.get(i));
        }

        int indexOf(List<String> template) {
            for (int t = 0; t < templates.size(); t++) {
                if (templates.get(t) == template) {
                    return t;
                }
            }
            throw new AssertionError("a line has a template that is gone");
        }

        List<String> linesOf(int t) {
            List<String> found = new ArrayList<>();
            for (int i = 0; i < lines.size(); i++) {
                if (templateOf.get(i) == templates.get(t)) {
                    found.add(lines.get(i));
                }
            }
            return found;
        }
    }

    private String text = "";
    private State state = new State();
    private final Deque<State> remembered = new ArrayDeque<>();
    private final State[] slots = new State[2];

    static List<String> pieces(String line) {
        List<String> pieces = new ArrayList<>();
        Matcher matcher = PIECE.matcher(line);
        while (matcher.find()) {
            pieces.add(matcher.group());
        }
        return pieces;
    }

    private static boolean isWord(String piece) {
        return piece.matches("[a-z]+");
    }

    private static boolean isNumber(String piece) {
        return piece.matches("[0-9]+");
    }

    private static boolean isSlot(String piece) {
        return piece.equals(NUMBER_SLOT) || piece.equals(WORD_SLOT);
    }

    private static boolean isLine(String text) {
        if (!text.matches("[a-z0-9 :=]{1,40}") || pieces(text).size() > 12) {
            return false;
        }
        return !text.matches(".*[0-9]{7}.*");
    }

    private static boolean fits(String line, List<String> template) {
        List<String> pieces = pieces(line);
        if (pieces.size() != template.size()) {
            return false;
        }
        for (int p = 0; p < pieces.size(); p++) {
            String slot = template.get(p);
            String piece = pieces.get(p);
            boolean alike = slot.equals(NUMBER_SLOT) ? isNumber(piece)
                    : slot.equals(WORD_SLOT) ? isWord(piece) : slot.equals(piece);
            if (!alike) {
                return false;
            }
        }
        return true;
    }

    private static int fit(State s, String line) {
        for (int t = 0; t < s.templates.size(); t++) {
            if (fits(line, s.templates.get(t))) {
                return t;
            }
        }
        return NONE;
    }

    private static List<String> newTemplate(String line) {
        List<String> template = new ArrayList<>();
        for (String piece : pieces(line)) {
            template.add(isNumber(piece) ? NUMBER_SLOT : piece);
        }
        return template;
    }

    private static boolean takeLine(State s, String line) {
        int t = fit(s, line);
        if (s.lines.size() >= 24 || t == NONE && s.templates.size() >= 12) {
            return false;
        }
        if (t == NONE) {
            s.templates.add(newTemplate(line));
            t = s.templates.size() - 1;
        }
        s.lines.add(line);
        s.templateOf.add(s.templates.get(t));
        return true;
    }

    private static int costOf(String line, List<String> template, List<String> before) {
        List<String> pieces = pieces(line);
        int cost = 1;
        for (int p = 0; p < pieces.size(); p++) {
            String piece = pieces.get(p);
            if (template.get(p).equals(NUMBER_SLOT)) {
                cost += isExpected(piece, p, before) ? 1 : piece.length();
            } else if (template.get(p).equals(WORD_SLOT)) {
                boolean known = false;
                for (String other : before) {
                    known |= pieces(other).get(p).equals(piece);
                }
                cost += known ? 1 : piece.length();
            }
        }
        return cost;
    }

    private static boolean isExpected(String piece, int p, List<String> before) {
        if (before.isEmpty()) {
            return false;
        }
        String last = pieces(before.get(before.size() - 1)).get(p);
        return last.length() == piece.length() && Integer.parseInt(piece) == expected(p, before);
    }

    private static int expected(int p, List<String> before) {
        int size = before.size();
        int last = Integer.parseInt(pieces(before.get(size - 1)).get(p));
        return size < 2 ? last : last + last - Integer.parseInt(pieces(before.get(size - 2)).get(p));
    }

    private static int lineCost(State s, int i) {
        List<String> before = new ArrayList<>();
        for (int j = 0; j < i; j++) {
            if (s.templateOf.get(j) == s.templateOf.get(i)) {
                before.add(s.lines.get(j));
            }
        }
        return costOf(s.lines.get(i), s.templateOf.get(i), before);
    }

    private static int templateCost(List<String> template) {
        int cost = 0;
        for (String piece : template) {
            cost += isSlot(piece) ? 1 : piece.length();
        }
        return cost;
    }

    private static int allCosts(State s) {
        int cost = 0;
        for (int i = 0; i < s.lines.size(); i++) {
            cost += lineCost(s, i);
        }
        for (List<String> template : s.templates) {
            cost += templateCost(template);
        }
        return cost;
    }

    private static int learnOnce(State s) {
        for (int t = 0; t < s.templates.size(); t++) {
            for (int u = t + 1; u < s.templates.size(); u++) {
                List<String> one = s.templates.get(t);
                List<String> two = s.templates.get(u);
                if (!canLearn(one, two)) {
                    continue;
                }
                for (int p = 0; p < one.size(); p++) {
                    if (!one.get(p).equals(two.get(p))) {
                        one.set(p, WORD_SLOT);
                    }
                }
                s.templateOf.replaceAll(other -> other == two ? one : other);
                s.templates.remove(u);
                return 100 * t + u;
            }
        }
        return NONE;
    }

    private static boolean canLearn(List<String> one, List<String> two) {
        if (one.size() != two.size()) {
            return false;
        }
        int differences = 0;
        for (int p = 0; p < one.size(); p++) {
            String a = one.get(p);
            String b = two.get(p);
            if (!a.equals(b)) {
                differences++;
                if (!isWord(a) && !a.equals(WORD_SLOT) || !isWord(b) && !b.equals(WORD_SLOT)) {
                    return false;
                }
            }
        }
        return differences <= 1;
    }

    private static void removeLine(State s, int i) {
        List<String> template = s.templateOf.remove(i);
        s.lines.remove(i);
        int t = s.indexOf(template);
        if (s.linesOf(t).isEmpty()) {
            s.templates.remove(t);
        }
    }

    private static State forgotten(State s) {
        State anew = new State();
        for (String line : s.lines) {
            if (!takeLine(anew, line)) {
                return null;
            }
        }
        return anew;
    }

    private void remember() {
        remembered.addLast(state.copy());
        if (remembered.size() > 14) {
            remembered.removeFirst();
        }
    }

    private static void index(boolean exists) {
        if (!exists) {
            throw new IndexOutOfBoundsException();
        }
    }

    private static void argument(boolean inRange) {
        if (!inRange) {
            throw new IllegalArgumentException();
        }
    }

    private static void allowed(boolean possible) {
        if (!possible) {
            throw new IllegalStateException();
        }
    }

    private static boolean within(int i, int size) {
        return i >= 0 && i < size;
    }

    int append(int c) {
        argument(within(c, 256));
        allowed(text.length() < 50);
        text += (char) c;
        return text.length();
    }

    int clearText() {
        int length = text.length();
        text = "";
        return length;
    }

    int errorPosition() {
        for (int k = 1; k <= text.length(); k++) {
            if (!isLine(text.substring(0, k))) {
                return k - 1;
            }
        }
        return text.isEmpty() ? 0 : NONE;
    }

    int about(int what) {
        argument(within(what, 8));
        int[] sums = new int[4];
        Set<String> words = new HashSet<>();
        for (int i = 0; i < state.lines.size(); i++) {
            sums[0] += state.lines.get(i).length();
            sums[1] += lineCost(state, i);
            for (String piece : pieces(state.lines.get(i))) {
                if (isWord(piece)) {
                    words.add(piece);
                }
            }
        }
        for (List<String> template : state.templates) {
            sums[2] += count(template, NUMBER_SLOT);
            sums[3] += count(template, WORD_SLOT);
        }
        int costs = allCosts(state) - sums[1];
        int[] answers = {state.lines.size(), state.templates.size(), sums[0], sums[1], costs, sums[2], sums[3],
            words.size()};
        return answers[what];
    }

    private static int count(List<String> template, String slot) {
        int slots = 0;
        for (String piece : template) {
            slots += piece.equals(slot) ? 1 : 0;
        }
        return slots;
    }

    int line(int i, int what) {
        index(within(i, state.lines.size()));
        argument(within(what, 4));
        int before = 0;
        for (int j = 0; j < i; j++) {
            before += state.templateOf.get(j) == state.templateOf.get(i) ? 1 : 0;
        }
        int[] answers = {state.templateIndex(i), state.lines.get(i).length(), lineCost(state, i), before};
        return answers[what];
    }

    int charAt(int i, int k) {
        index(within(i, state.lines.size()));
        argument(k >= 0);
        String line = state.lines.get(i);
        return k < line.length() ? line.charAt(k) : NONE;
    }

    int value(int i, int p) {
        index(within(i, state.lines.size()));
        List<String> pieces = pieces(state.lines.get(i));
        index(within(p, pieces.size()));
        return isNumber(pieces.get(p)) ? Integer.parseInt(pieces.get(p)) : NONE;
    }

    int template(int t, int what) {
        index(within(t, state.templates.size()));
        argument(within(what, 6));
        List<String> template = state.templates.get(t);
        int first = 0;
        while (state.templateOf.get(first) != template) {
            first++;
        }
        int[] answers = {template.size(), state.linesOf(t).size(), count(template, NUMBER_SLOT),
            count(template, WORD_SLOT), templateCost(template), first};
        return answers[what];
    }

    int piece(int t, int p, int what) {
        index(within(t, state.templates.size()));
        index(within(p, state.templates.get(t).size()));
        argument(within(what, 3));
        String piece = state.templates.get(t).get(p);
        if (what == 0) {
            return piece.equals(NUMBER_SLOT) ? 3 : piece.equals(WORD_SLOT) ? 4 : isWord(piece) ? 0
                    : piece.startsWith(" ") ? 1 : 2;
        }
        if (what == 1) {
            return isSlot(piece) ? 0 : piece.length();
        }
        Set<Object> things = new HashSet<>();
        for (String line : state.linesOf(t)) {
            String there = pieces(line).get(p);
            if (piece.equals(NUMBER_SLOT)) {
                things.add(Integer.valueOf(there));
            } else {
                things.add(there);
            }
        }
        return things.size();
    }

    int rises(int t, int p) {
        index(within(t, state.templates.size()));
        index(within(p, state.templates.get(t).size()));
        if (!state.templates.get(t).get(p).equals(NUMBER_SLOT)) {
            return NONE;
        }
        List<String> lines = state.linesOf(t);
        for (int from = 0; ; from++) {
            Set<Integer> steps = new HashSet<>();
            for (int i = from + 1; i < lines.size(); i++) {
                steps.add(Integer.parseInt(pieces(lines.get(i)).get(p))
                        - Integer.parseInt(pieces(lines.get(i - 1)).get(p)));
            }
            if (steps.size() <= 1) {
                return lines.size() - from;
            }
        }
    }

    int take() {
        State after = state.copy();
        allowed(isLine(text) && takeLine(after, text));
        remember();
        state = after;
        return state.templateIndex(state.lines.size() - 1);
    }

    int again(int i) {
        index(within(i, state.lines.size()));
        State after = state.copy();
        allowed(takeLine(after, state.lines.get(i)));
        remember();
        state = after;
        return state.lines.size() - 1;
    }

    int remove(int i) {
        index(within(i, state.lines.size()));
        remember();
        removeLine(state, i);
        return state.templates.size();
    }

    int learn() {
        remember();
        return learnOnce(state);
    }

    int learnAll() {
        remember();
        learnEverything(state);
        return state.templates.size();
    }

    private static void learnEverything(State s) {
        int learnt = learnOnce(s);
        while (learnt != NONE) {
            learnt = learnOnce(s);
        }
    }

    int open(int t, int p) {
        index(within(t, state.templates.size()));
        index(within(p, state.templates.get(t).size()));
        allowed(isWord(state.templates.get(t).get(p)));
        remember();
        state.templates.get(t).set(p, WORD_SLOT);
        return templateCost(state.templates.get(t));
    }

    int forget() {
        State anew = forgotten(state);
        allowed(anew != null);
        remember();
        state = anew;
        return state.templates.size();
    }

    int undo() {
        allowed(!remembered.isEmpty());
        state = remembered.removeLast();
        return remembered.size();
    }

    int which() {
        return isLine(text) ? fit(state, text) : NONE;
    }

    int wouldCost() {
        if (!isLine(text)) {
            return NONE;
        }
        int t = fit(state, text);
        return t == NONE ? costOf(text, newTemplate(text), new ArrayList<>())
                : costOf(text, state.templates.get(t), state.linesOf(t));
    }

    int saves() {
        State after = state.copy();
        return learnOnce(after) == NONE ? NONE : allCosts(state) - allCosts(after);
    }

    int next(int t, int k) {
        index(within(t, state.templates.size()));
        argument(k >= 0);
        List<String> lines = state.linesOf(t);
        StringBuilder next = new StringBuilder();
        List<String> pieces = pieces(lines.get(lines.size() - 1));
        for (int p = 0; p < pieces.size(); p++) {
            if (!isNumber(pieces.get(p))) {
                next.append(pieces.get(p));
                continue;
            }
            String digits = Integer.toString(Math.max(0, expected(p, lines)));
            while (digits.length() < pieces.get(p).length()) {
                digits = "0" + digits;
            }
            next.append(digits.length() > 6 ? digits.substring(digits.length() - 6) : digits);
        }
        return k < next.length() ? next.charAt(k) : NONE;
    }

    int withValue(int v) {
        argument(within(v, 1000000));
        int lines = 0;
        for (String line : state.lines) {
            boolean found = false;
            for (String piece : pieces(line)) {
                found |= isNumber(piece) && Integer.parseInt(piece) == v;
            }
            lines += found ? 1 : 0;
        }
        return lines;
    }

    int runScript(int n, long script) {
        argument(within(n, 5) && n > 0);
        argument(script >= 0 && Long.toString(script).length() <= 4 * n);
        StringBuilder digits = new StringBuilder(Long.toString(script));
        while (digits.length() < 4 * n) {
            digits.insert(0, '0');
        }
        State copy = state.copy();
        for (int c = 0; c < n; c++) {
            copy = afterCommand(copy, digits.substring(4 * c, 4 * c + 4));
            if (copy == null) {
                return c;
            }
        }
        return NONE;
    }

    /** The state after the command, null if it fails. */
    private static State afterCommand(State s, String group) {
        int two = Integer.parseInt(group.substring(1, 3));
        boolean hasLine = two < s.lines.size();
        if (group.matches("1..0")) {
            return hasLine && takeLine(s, s.lines.get(two)) ? s : null;
        }
        if (group.matches("2..0") && hasLine) {
            removeLine(s, two);
            return s;
        }
        if (group.equals("3000")) {
            return learnOnce(s) == NONE ? null : s;
        }
        if (group.equals("4000")) {
            learnEverything(s);
            return s;
        }
        if (group.matches("5..0")) {
            return opened(s, two / 10, two % 10);
        }
        if (group.equals("6000")) {
            return forgotten(s);
        }
        boolean holds = group.matches("70..") && s.templates.size() <= Integer.parseInt(group.substring(2))
                || group.startsWith("8") && allCosts(s) <= Integer.parseInt(group.substring(1))
                || group.startsWith("9") && hasLine && s.templateIndex(two) == group.charAt(3) - '0';
        return holds ? s : null;
    }

    private static State opened(State s, int t, int p) {
        if (t >= s.templates.size() || p >= s.templates.get(t).size() || !isWord(s.templates.get(t).get(p))) {
            return null;
        }
        s.templates.get(t).set(p, WORD_SLOT);
        return s;
    }

    int simulate(long seed, int m) {
        argument(m >= 1 && m <= 30);
        State s = state.copy();
        long x = seed;
        int v = 7;
        for (int i = 0; i < m; i++) {
            x = x * 6364136223846793005L + 1442695040888963407L;
            int r = (int) (x >>> 33);
            v = v + r % 3;
            String letter = "abc".substring(r / 4 % 3, r / 4 % 3 + 1);
            String line = letter + letter + " " + v + (r / 16 % 4 == 0 ? "=" : ":") + "mnopq".charAt(r / 64 % 5);
            if (r / 32768 % 2 == 0) {
                line += " " + r / 512 % 50;
            }
            if (!takeLine(s, line)) {
                learnEverything(s);
            }
        }
        return 1000 * s.templates.size() + Math.min(999, allCosts(s));
    }

    int save(int slot) {
        index(within(slot, 2));
        slots[slot] = state.copy();
        return state.lines.size();
    }

    int restore(int slot) {
        index(within(slot, 2));
        allowed(slots[slot] != null);
        state = slots[slot].copy();
        remembered.clear();
        return state.lines.size();
    }
}
