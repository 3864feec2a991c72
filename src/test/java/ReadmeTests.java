import java.io.IOException;
import java.lang.reflect.Method;
import java.lang.reflect.Modifier;
import java.nio.file.DirectoryStream;
import java.nio.file.Files;
import java.nio.file.Path;
import java.util.ArrayList;
import java.util.Comparator;
import java.util.List;
import java.util.Set;
import java.util.TreeSet;
import java.util.regex.Matcher;
import java.util.regex.Pattern;
import java.util.stream.Stream;

/** What README.md says holds as it is written: its program, its commands, what they print, its calls, its files. */
public final class ReadmeTests {
    private static final Pattern BLOCK = Pattern.compile("```(\\w*)\n(.*?)```\n", Pattern.DOTALL);
    private static final Pattern ROW = Pattern.compile("\\| `(\\w+)\\((.*?)\\)` \\|");
    private static final Pattern QUOTED = Pattern.compile("`([^`\n]+)`");
    private static final Checks CHECKS = new Checks("ReadmeTests");

    /** A piece of the README between two fences; its kind stands behind the first one. */
    private static final class Block {
        final String kind;
        final String text;

        Block(String kind, String text) {
            this.kind = kind;
            this.text = text;
        }
    }

    public static void main(String[] args) throws Exception {
        String readme = Files.readString(Path.of("README.md"));
        List<Block> blocks = blocks(readme);
        String words = BLOCK.matcher(readme).replaceAll("");
        commands(blocks);
        calls(words);
        files(words);
        CHECKS.close();
    }

    private static List<Block> blocks(String readme) {
        List<Block> blocks = new ArrayList<>();
        Matcher matcher = BLOCK.matcher(readme);
        while (matcher.find()) {
            blocks.add(new Block(matcher.group(1), matcher.group(2)));
        }
        return blocks;
    }

    /** Each block of commands ends well; the first one runs the program, and prints the block that follows. */
    private static void commands(List<Block> blocks) throws Exception {
        Path room = Files.createTempDirectory("readme");
        try {
            Path checkout = copyOfCheckout(room);
            int commands = 0;
            String printed = "";
            for (Block block : blocks) {
                if (block.kind.equals("java")) {
                    Files.writeString(checkout.resolve("Example.java"), block.text);
                } else if (block.kind.equals("sh")) {
                    commands++;
                    printed = run(checkout, block.text);
                } else {
                    CHECKS.dueTrue("the program prints <" + printed + ">, README.md says <" + block.text + ">",
                            printed.equals(block.text));
                }
            }
            CHECKS.due("blocks of commands", commands, 3);
            CHECKS.due("blocks", blocks.size(), 5);
        } finally {
            delete(room);
        }
    }

    // The commands write into the checkout, so that they run in a copy that has ../shared where the checkout has it.
    private static Path copyOfCheckout(Path room) throws IOException {
        Path checkout = Files.createDirectory(room.resolve("checkout"));
        try (Stream<Path> found = Files.walk(Path.of("src"))) {
            for (Path from : (Iterable<Path>) found::iterator) {
                Path to = checkout.resolve(from.toString());
                if (Files.isDirectory(from)) {
                    Files.createDirectories(to);
                } else {
                    Files.copy(from, to);
                }
            }
        }
        Files.createSymbolicLink(room.resolve("shared"), Path.of("../shared").toRealPath());
        return checkout;
    }

    private static String run(Path checkout, String commands) throws Exception {
        Path out = Files.createTempFile(checkout, "out", ".txt");
        Process process = new ProcessBuilder("bash", "-e", "-c", commands).directory(checkout.toFile())
                .redirectOutput(out.toFile()).redirectError(ProcessBuilder.Redirect.INHERIT).start();
        int end = process.waitFor();
        String printed = Files.readString(out);
        CHECKS.dueTrue("the commands <" + commands + "> end with " + end + ": " + printed, end == 0);
        return printed;
    }

    private static void delete(Path room) throws IOException {
        try (Stream<Path> found = Files.walk(room)) {
            for (Path path : (Iterable<Path>) found.sorted(Comparator.reverseOrder())::iterator) {
                Files.delete(path);
            }
        }
    }

    /** The table has one row for each call of the class, with as many arguments. */
    private static void calls(String words) {
        Set<String> told = new TreeSet<>();
        Matcher matcher = ROW.matcher(words);
        while (matcher.find()) {
            String arguments = matcher.group(2);
            CHECKS.dueTrue(matcher.group(1) + " stands twice",
                    told.add(matcher.group(1) + "/" + (arguments.isEmpty() ? 0 : arguments.split(", ").length)));
        }
        Set<String> due = new TreeSet<>();
        for (Method method : LineTemplates.class.getDeclaredMethods()) {
            if (Modifier.isPublic(method.getModifiers())) {
                due.add(method.getName() + "/" + method.getParameterCount());
            }
        }
        CHECKS.dueTrue("README.md tells the calls " + told + ", the class has " + due, told.equals(due));
        String none = "`NONE` (" + LineTemplates.NONE + ")";
        CHECKS.dueTrue("README.md does not tell " + none, words.contains(none));
    }

    /** Each file that is named is there, and each test and helper is named. */
    private static void files(String words) throws IOException {
        List<String> named = new ArrayList<>();
        Matcher matcher = QUOTED.matcher(words);
        while (matcher.find()) {
            named.add(matcher.group(1));
        }
        for (String name : named) {
            // What ../shared holds is not the project's own.
            if (name.contains("/") && !name.contains("*") && !name.startsWith("../")) {
                Path path = Path.of(name.replace("bash ", ""));
                CHECKS.dueTrue("README.md names " + name + ", which is not there", Files.exists(path));
            }
        }
        CHECKS.dueTrue("README.md does not name .ci/run", named.contains("bash .ci/run"));
        CHECKS.dueTrue(".ci/run cannot be run", Files.isExecutable(Path.of(".ci/run")));
        Set<String> there = new TreeSet<>();
        try (DirectoryStream<Path> tests = Files.newDirectoryStream(Path.of("src/test/java"))) {
            for (Path test : tests) {
                there.add(test.getFileName().toString().replace(".java", ""));
            }
        }
        for (String test : there) {
            boolean isNamed = named.contains(test) || named.contains(test + ".java")
                    || named.contains("src/test/java/" + test + ".java");
            CHECKS.dueTrue("README.md does not name " + test, isNamed);
        }
        helpers(named, there);
    }

    private static void helpers(List<String> named, Set<String> there) {
        for (String name : named) {
            if (name.matches("[A-Z]\\w+\\.java") && !name.equals("Example.java")) {
                boolean isThere = there.contains(name.replace(".java", ""));
                CHECKS.dueTrue("README.md names " + name + ", which is no test", isThere);
            }
        }
    }
}
