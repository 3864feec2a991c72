import java.lang.reflect.Constructor;
import java.lang.reflect.Field;
import java.lang.reflect.Method;
import java.lang.reflect.Modifier;
import java.nio.file.Files;
import java.nio.file.Path;
import java.util.Arrays;
import java.util.HashSet;
import java.util.List;
import java.util.Set;
import java.util.TreeSet;
import java.util.regex.Matcher;
import java.util.regex.Pattern;

/** The class has the document's face and no more; its file keeps the rules of LANGUAGE.md that can be read off it. */
public final class FaceTests {
    private static final String I = "IllegalArgumentException";
    private static final String S = "IllegalStateException";
    private static final String X = "IndexOutOfBoundsException";
    private static final String[] FACE = {
        "int append(int) " + I + " " + S, "int clearText()", "int errorPosition()", "int about(int) " + I,
        "int line(int, int) " + X + " " + I, "int charAt(int, int) " + X + " " + I, "int value(int, int) " + X,
        "int template(int, int) " + X + " " + I, "int piece(int, int, int) " + X + " " + I, "int rises(int, int) " + X,
        "int take() " + S, "int again(int) " + X + " " + S, "int remove(int) " + X, "int learn()", "int learnAll()",
        "int open(int, int) " + X + " " + S, "int forget() " + S, "int undo() " + S, "int which()", "int wouldCost()",
        "int saves()", "int next(int, int) " + X + " " + I, "int withValue(int) " + I,
        "int runScript(int, long) " + I, "int simulate(long, int) " + I, "int save(int) " + X,
        "int restore(int) " + X + " " + S};

    private static final Checks CHECKS = new Checks("FaceTests");

    public static void main(String[] args) throws Exception {
        face();
        members();
        source(Files.readString(Path.of("src/main/java/LineTemplates.java")));
        CHECKS.close();
    }

    private static void face() throws Exception {
        Class<?> type = LineTemplates.class;
        CHECKS.dueTrue("the class is not public and final", type.getModifiers() == (Modifier.PUBLIC | Modifier.FINAL));
        Constructor<?>[] constructors = type.getDeclaredConstructors();
        CHECKS.due("constructors", constructors.length, 1);
        CHECKS.due("parameters of the constructor", constructors[0].getParameterCount(), 0);
        CHECKS.due("modifiers of the constructor", constructors[0].getModifiers(), Modifier.PUBLIC);
        Set<String> found = new TreeSet<>();
        for (Method method : type.getDeclaredMethods()) {
            if (!Modifier.isPrivate(method.getModifiers())) {
                CHECKS.due("modifiers of " + method, method.getModifiers(), Modifier.PUBLIC);
                found.add(told(method));
            }
        }
        Set<String> due = new TreeSet<>(Arrays.asList(FACE));
        CHECKS.dueTrue("the methods are " + found + ", due are " + due, found.equals(due));
        CHECKS.due("NONE", type.getField("NONE").getInt(null), -9999);
    }

    private static String told(Method method) {
        StringBuilder told = new StringBuilder(method.getReturnType() + " " + method.getName() + "(");
        for (int i = 0; i < method.getParameterCount(); i++) {
            told.append(i == 0 ? "" : ", ").append(method.getParameterTypes()[i]);
        }
        told.append(")");
        for (Class<?> exception : method.getExceptionTypes()) {
            told.append(" ").append(exception.getSimpleName());
        }
        return told.toString();
    }

    private static void members() {
        Set<String> names = new HashSet<>();
        for (String method : FACE) {
            names.add(method.substring(4, method.indexOf('(')));
        }
        Class<?>[] inside = LineTemplates.class.getDeclaredClasses();
        CHECKS.dueTrue("more than 12 classes", inside.length < 12);
        for (Field field : LineTemplates.class.getDeclaredFields()) {
            boolean isNone = field.getName().equals("NONE");
            CHECKS.dueTrue(field + " can be seen", isNone || Modifier.isPrivate(field.getModifiers()));
        }
        for (Class<?> type : inside) {
            CHECKS.dueTrue(type + " is no private static class",
                    Modifier.isStatic(type.getModifiers()) && Modifier.isPrivate(type.getModifiers()));
            for (Method method : type.getDeclaredMethods()) {
                CHECKS.dueTrue(method + " bears a name of the face", !names.contains(method.getName()));
            }
        }
        for (Method method : LineTemplates.class.getDeclaredMethods()) {
            boolean free = Modifier.isPublic(method.getModifiers()) || !names.contains(method.getName());
            CHECKS.dueTrue(method + " is private and bears a name of the face", free);
            CHECKS.dueTrue(method + " has more than seven parameters", method.getParameterCount() <= 7);
        }
        for (Field field : LineTemplates.class.getDeclaredFields()) {
            int modifiers = field.getModifiers();
            CHECKS.dueTrue(field + " is static and not final",
                    !Modifier.isStatic(modifiers) || Modifier.isFinal(modifiers));
        }
    }

    private static void source(String text) {
        String code = text.replaceAll("(?s)/\\*.*?\\*/", " ").replaceAll("//[^\n]*", " ")
                .replaceAll("\"[^\"\n]*\"", "\"\"");
        List<String> forbidden = List.of("\\bimport\\b", "\\bpackage\\b", "\\btry\\b", "\\bcatch\\b", "\\bfinally\\b",
                "->", "::", "\\bsynchronized\\b", "\\bassert\\b", "\\bSystem\\b", "\\bThread\\b", "\\bnull\\b",
                "\\bprotected\\b", "\\bObject\\b", "\\bdouble\\b", "\\bfloat\\b", "\\binstanceof\\b", "Exact\\b",
                "\\bequals\\b", "\\bhashCode\\b", "\\btoString\\b", "static\\s*\\{", "\\bwhile\\s*\\(\\s*true");
        for (String pattern : forbidden) {
            CHECKS.dueTrue("the program has " + pattern, !Pattern.compile(pattern).matcher(code).find());
        }
        Matcher thrown = Pattern.compile("throw\\s+([^;]*);").matcher(code);
        while (thrown.find()) {
            CHECKS.dueTrue("throws " + thrown.group(1),
                    thrown.group(1).matches("new (" + I + "|" + S + "|" + X + ")\\(\"\"\\)"));
        }
        CHECKS.dueTrue("the program has signs beyond 127", text.chars().allMatch(c -> c < 128));
        methodLengths(text.split("\n"));
    }

    private static void methodLengths(String[] lines) {
        int start = 0;
        for (int i = 0; i < lines.length; i++) {
            if (lines[i].matches(" {4,8}(public|private) .*\\{")) {
                start = i;
            }
            if (lines[i].matches(" {4,8}\\}") && !lines[start].contains(" class ")) {
                CHECKS.dueTrue(lines[start].trim() + " is long", i - start < 60);
            }
        }
    }
}
