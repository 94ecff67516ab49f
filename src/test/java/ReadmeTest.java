import java.io.IOException;
import java.lang.reflect.Method;
import java.lang.reflect.Modifier;
import java.nio.file.Files;
import java.nio.file.Path;
import java.util.ArrayList;
import java.util.Collections;
import java.util.List;
import java.util.Set;
import java.util.TreeSet;
import java.util.regex.Matcher;
import java.util.regex.Pattern;
import java.util.stream.Stream;

/**
 * What README.md shows is so: each line of its examples answers what stands behind it, when it is
 * compiled and run by the very command that README.md gives; and its table has every call.
 */
public final class ReadmeTest {
    private static final Path PROGRAM = Path.of("src/main/java/PumiceSledge.java");
    /** A statement, and behind it what it answers or throws, with words of its own or without. */
    private static final Pattern TOLD = Pattern.compile("(.*;) +// (throws \\w+|[^: ]+)(: .*)?");
    private static final Pattern NAMED = Pattern.compile("int (\\w+) = .*;");
    private static final Pattern ROW = Pattern.compile("\\| `(\\w+)\\((.*)\\)` \\| .* \\| (.*)\\|");

    private final Check check = new Check();
    private final List<String> readme;
    /** The lines of all examples that tell an answer, and the answers that they tell. */
    private final List<String> lines = new ArrayList<>();
    private final List<String> wants = new ArrayList<>();

    private ReadmeTest() throws IOException {
        readme = Files.readAllLines(Path.of("README.md"));
    }

    public static void main(String[] args) throws IOException, InterruptedException {
        ReadmeTest test = new ReadmeTest();
        test.examplesAnswerAsTold();
        test.tableHasEveryCall();
        test.check.end();
    }

    private void examplesAnswerAsTold() throws IOException, InterruptedException {
        String source = yours();
        check.due("answers are told in README.md", true, !wants.isEmpty());
        List<String> got = printed(source);
        for (int i = 0; i < wants.size(); i++) {
            check.due(lines.get(i), wants.get(i), i < got.size() ? got.get(i) : "nothing");
        }
        check.due("answers printed by the examples", wants.size(), got.size());
    }

    /** A class of the name that README.md gives, which prints what the examples answer. */
    private String yours() {
        StringBuilder b = new StringBuilder("public class Yours {\n");
        b.append("public static void main(String[] args) {\n");
        for (String example : blocks("java")) {
            b.append("{\n");
            for (String line : example.split("\n")) {
                b.append(printing(line));
            }
            b.append("}\n");
        }
        return b.append("}\n}\n").toString();
    }

    private String printing(String line) {
        if (line.equals("PumiceSledge slope = new PumiceSledge();")) {
            return line + "\n";
        }
        Matcher told = TOLD.matcher(line);
        check.due(line + " tells what it answers", true, told.matches());
        if (!told.matches()) {
            return "";
        }
        lines.add(line);
        wants.add(told.group(2));
        String statement = told.group(1);
        Matcher named = NAMED.matcher(statement);
        if (named.matches()) {
            return statement + "\nSystem.out.println(" + named.group(1) + ");\n";
        }
        String call = statement.substring(0, statement.length() - 1);
        return "try {\nSystem.out.println(" + call + ");\n} catch (RuntimeException e) {\n"
                + "System.out.println(\"throws \" + e.getClass().getSimpleName());\n}\n";
    }

    /** What the command of README.md prints, in a folder with the program and with this class. */
    private List<String> printed(String source) throws IOException, InterruptedException {
        Path folder = Files.createTempDirectory("readme");
        try {
            Path program = folder.resolve(PROGRAM);
            Files.createDirectories(program.getParent());
            Files.copy(PROGRAM, program);
            Files.writeString(folder.resolve("Yours.java"), source);
            return run(commandFor("Yours.java"), folder);
        } finally {
            delete(folder);
        }
    }

    private String commandFor(String file) {
        for (String block : blocks("sh")) {
            if (block.contains(file)) {
                return block;
            }
        }
        check.due("README.md has a command for " + file, true, false);
        return "exit 1";
    }

    private List<String> run(String command, Path folder) throws IOException, InterruptedException {
        ProcessBuilder builder = new ProcessBuilder("sh", "-c", command);
        builder.directory(folder.toFile()).redirectError(ProcessBuilder.Redirect.INHERIT);
        Process process = builder.start();
        String output = new String(process.getInputStream().readAllBytes());
        check.due("exit code of " + command.trim(), 0, process.waitFor());
        return output.lines().toList();
    }

    private static void delete(Path folder) throws IOException {
        List<Path> paths;
        try (Stream<Path> walk = Files.walk(folder)) {
            paths = new ArrayList<>(walk.toList());
        }
        Collections.reverse(paths);
        for (Path path : paths) {
            Files.delete(path);
        }
    }

    /** The blocks of README.md that are marked as of this language. */
    private List<String> blocks(String language) {
        List<String> blocks = new ArrayList<>();
        StringBuilder block = null;
        for (String line : readme) {
            if (block == null && line.equals("```" + language)) {
                block = new StringBuilder();
            } else if (block != null && line.equals("```")) {
                blocks.add(block.toString());
                block = null;
            } else if (block != null) {
                block.append(line).append('\n');
            }
        }
        return blocks;
    }

    private void tableHasEveryCall() {
        Set<String> rows = new TreeSet<>();
        for (String line : readme) {
            Matcher row = ROW.matcher(line);
            if (row.matches()) {
                int parameters = row.group(2).isEmpty() ? 0 : row.group(2).split(", ").length;
                rows.add(row.group(1) + " " + parameters + " " + row.group(3).trim());
            }
        }
        Set<String> calls = new TreeSet<>();
        for (Method m : PumiceSledge.class.getDeclaredMethods()) {
            if (Modifier.isPublic(m.getModifiers())) {
                calls.add(m.getName() + " " + m.getParameterCount() + " " + thrown(m));
            }
        }
        check.due("the calls in the table", calls, rows);
    }

    private static String thrown(Method m) {
        List<String> words = new ArrayList<>();
        for (Class<?> exception : m.getExceptionTypes()) {
            words.add(exception.getSimpleName()
                    .replaceFirst("OutOfBoundsException|Exception", "")
                    .replaceFirst("Illegal", ""));
        }
        return String.join(", ", words);
    }
}
