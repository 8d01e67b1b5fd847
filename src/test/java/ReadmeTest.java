import java.io.IOException;
import java.lang.reflect.Method;
import java.lang.reflect.Modifier;
import java.nio.file.Files;
import java.nio.file.Path;
import java.util.ArrayList;
import java.util.Comparator;
import java.util.List;
import java.util.regex.Matcher;
import java.util.regex.Pattern;
import java.util.stream.Stream;

/** README.md is right: each example answers as it says, and each command works in a copy of a clean checkout. */
public final class ReadmeTest {
    private static final Path PAGE = Path.of("README.md");
    /** What a clean checkout has; what was built here since stays out of the copy. */
    private static final List<String> CHECKED_OUT = List.of(".ci", "README.md", "examples", "src");
    /** This test is one of those that it runs: it can't run it in its turn. */
    private static final String ALL_TESTS = ".ci/run";

    private static final Pattern BLOCK = Pattern.compile("```(\\w+)\n(.*?)```", Pattern.DOTALL);
    private static final Pattern ANSWERED = Pattern.compile("floor\\.(\\w+)(\\(.*?\\)); +// (-?\\d+|true|false|throws \\w+)(: .+)?");
    private static final Pattern UNANSWERED = Pattern.compile("floor\\.(plain|trunk)\\(.*?\\);( +// .+)?");
    private static final String MADE = "SwitchFloor floor = new SwitchFloor();";

    public static void main(String[] args) throws IOException, InterruptedException {
        Path work = Files.createTempDirectory("readme");
        try {
            examplesAnswerAsTheySay(work);
            everyCallHasAnExample();
            commandsWork(work);
        } finally {
            drop(work);
        }
        Check.end();
    }

    private static void examplesAnswerAsTheySay(Path work) throws IOException, InterruptedException {
        Check.part("examples");
        StringBuilder source = new StringBuilder("final class Examples {\n");
        StringBuilder calls = new StringBuilder();
        int count = 0;
        for (String[] block : blocks()) {
            if (block[0].equals("java")) {
                count++;
                source.append("static void example").append(count).append("() {\n");
                source.append("Check.part(\"README.md, example ").append(count).append("\");\n");
                block[1].lines().forEach(line -> source.append(checked(line)).append('\n'));
                source.append("}\n");
                calls.append("example").append(count).append("();\n");
            }
        }
        source.append("public static void main(String[] args) {\n").append(calls).append("Check.end();\n}\n}\n");
        Check.is("there are examples", true, count > 0);
        Files.writeString(work.resolve("Examples.java"), source);
        String mine = Path.of(System.getProperty("java.class.path")).toAbsolutePath().toString();
        String command = "javac -d made -cp '" + mine + "' Examples.java && java -cp 'made:" + mine + "' Examples";
        Check.is("they compile, and answer as they say", 0, run(work, command, new StringBuilder()));
    }

    /** The line as a check of its answer; one that tells none, but should, is wrong. */
    private static String checked(String line) {
        if (line.equals(MADE) || UNANSWERED.matcher(line).matches() && !line.contains("// throws")) {
            return line;
        }
        Matcher call = ANSWERED.matcher(line);
        boolean told = call.matches();
        Check.is("'" + line + "' tells its answer", true, told);
        if (!told) {
            return "";
        }
        String name = call.group(1);
        String asked = "floor." + name + call.group(2);
        String lambda = name.equals("plain") || name.equals("trunk") ? "{ " + asked + "; return 0; }"
                : name.equals("shut") || name.equals("isAtRest") ? asked + " ? 1 : 0" : asked;
        return "Check.gives(\"" + asked + "\", " + due(call.group(3)) + ", () -> " + lambda + ");";
    }

    private static String due(String answer) {
        switch (answer) {
            case "true":
                return "1";
            case "false":
                return "0";
            case "throws IndexOutOfBoundsException":
                return "Check.OUT_OF_BOUNDS";
            case "throws IllegalArgumentException":
                return "Check.BAD_ARGUMENT";
            case "throws IllegalStateException":
                return "Check.BAD_STATE";
            default:
                return answer;
        }
    }

    private static void everyCallHasAnExample() throws IOException {
        Check.part("calls");
        String page = Files.readString(PAGE);
        for (Method method : SwitchFloor.class.getDeclaredMethods()) {
            if (Modifier.isPublic(method.getModifiers())) {
                Check.is(method.getName() + " has an example", true, page.contains("floor." + method.getName() + "("));
            }
        }
        for (Path test : javaFilesIn(Path.of("src/test/java"))) {
            String name = test.getFileName().toString().replace(".java", "");
            Check.is("the page names " + name, true, page.contains("`" + name + "`"));
        }
    }

    /** Runs the commands in their order, line by line; a block of text behind some is what the last of them prints. */
    private static void commandsWork(Path work) throws IOException, InterruptedException {
        Check.part("commands");
        Path checkout = cleanCheckout(work);
        StringBuilder printed = new StringBuilder();
        int count = 0;
        for (String[] block : blocks()) {
            if (block[0].equals("text")) {
                Check.is("what is printed is '" + printed + "'", true, block[1].contentEquals(printed));
            } else if (block[0].equals("sh")) {
                for (String command : block[1].split("\n")) {
                    count++;
                    printed.setLength(0);
                    Check.is(command, 0, command.equals(ALL_TESTS) ? runnable(checkout) : run(checkout, command, printed));
                }
            }
        }
        Check.is("there are commands", true, count > 0);
    }

    private static int runnable(Path checkout) {
        return Files.isExecutable(checkout.resolve(ALL_TESTS)) ? 0 : 1;
    }

    private static Path cleanCheckout(Path work) throws IOException {
        Path checkout = Files.createDirectory(work.resolve("main"));
        Files.createSymbolicLink(work.resolve("shared"), Path.of("../shared").toRealPath());
        for (String part : CHECKED_OUT) {
            for (Path from : everythingIn(Path.of(part))) {
                Files.copy(from, checkout.resolve(from.toString()));
            }
        }
        return checkout;
    }

    private static List<String[]> blocks() throws IOException {
        List<String[]> found = new ArrayList<>();
        Matcher block = BLOCK.matcher(Files.readString(PAGE));
        while (block.find()) {
            found.add(new String[] {block.group(1), block.group(2)});
        }
        return found;
    }

    private static int run(Path where, String command, StringBuilder printed) throws IOException, InterruptedException {
        Process process = new ProcessBuilder("bash", "-c", command)
                .directory(where.toFile()).redirectErrorStream(true).start();
        String text = new String(process.getInputStream().readAllBytes());
        int code = process.waitFor();
        if (code != 0) {
            System.out.print(text);
        }
        printed.append(text);
        return code;
    }

    private static List<Path> javaFilesIn(Path root) throws IOException {
        List<Path> found = everythingIn(root);
        found.removeIf(path -> !path.toString().endsWith(".java"));
        return found;
    }

    /** A directory stands ahead of what is in it. */
    private static List<Path> everythingIn(Path root) throws IOException {
        try (Stream<Path> all = Files.walk(root)) {
            return new ArrayList<>(all.sorted().toList());
        }
    }

    private static void drop(Path work) throws IOException {
        List<Path> all = everythingIn(work);
        all.sort(Comparator.reverseOrder());
        for (Path path : all) {
            Files.delete(path);
        }
    }
}
