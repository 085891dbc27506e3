import java.io.IOException;
import java.lang.reflect.Modifier;
import java.nio.file.Files;
import java.nio.file.Path;
import java.util.ArrayList;
import java.util.Arrays;
import java.util.Comparator;
import java.util.List;
import java.util.Set;
import java.util.TreeSet;
import java.util.regex.Matcher;
import java.util.regex.Pattern;
import java.util.stream.Stream;

/** What README.md tells a user to write and to run: it is written and run as it stands there, in an empty directory. */
public final class ReadmeTest {
    private static final Path README = Path.of("README.md");
    private static final Path MAIN = Path.of("src/main/java");
    private static final Path TESTS = Path.of("src/test/java");
    private static final Pattern ANSWER = Pattern.compile("show\\(.*\\); +// ([^:]*): .*");

    public static void main(String[] args) throws IOException, InterruptedException {
        List<String> lines = Files.readAllLines(README);
        List<String> programs = blocks(lines, "java");
        List<String> commands = blocks(lines, "sh");
        Due.answer("one program to write", 1, () -> programs.size());
        Due.answer("what runs it, and what runs one test", 2, () -> commands.size());
        if (programs.size() == 1 && commands.size() == 2) {
            everyCallIsMade(programs.get(0));
            Path top = Files.createTempDirectory("readme");
            try {
                copy(MAIN, top);
                copy(TESTS, top);
                Files.writeString(top.resolve("Example.java"), programs.get(0));
                theProgramAnswers(programs.get(0), run(commands.get(0), top));
                theTestPasses(run(commands.get(1), top));
            } finally {
                delete(top);
            }
        }
        everyTestIsTold(lines);
        Due.answer(".ci/run can be run", true, () -> Files.isExecutable(Path.of(".ci/run")));
        Due.end();
    }

    /** What stands between the fences of a language. */
    private static List<String> blocks(List<String> lines, String language) {
        List<String> blocks = new ArrayList<>();
        StringBuilder block = null;
        for (String line : lines) {
            if (line.equals("```" + language)) {
                block = new StringBuilder();
            } else if (block != null && line.equals("```")) {
                blocks.add(block.toString());
                block = null;
            } else if (block != null) {
                block.append(line).append('\n');
            }
        }
        return blocks;
    }

    private static void everyCallIsMade(String program) {
        Stream<String> names = Arrays.stream(PromiseClocks.class.getDeclaredMethods())
            .filter(m -> Modifier.isPublic(m.getModifiers())).map(m -> m.getName());
        for (String name : names.toList()) {
            Due.answer("the program calls " + name, true, () -> program.contains("desk." + name + "("));
        }
    }

    private static void theProgramAnswers(String program, List<String> printed) {
        List<String> due = new ArrayList<>();
        for (String line : program.split("\n")) {
            Matcher told = ANSWER.matcher(line.strip());
            if (told.matches()) {
                due.add(told.group(1));
            } else {
                Due.answer("an answer is told for: " + line, false, () -> line.strip().startsWith("show("));
            }
        }
        Due.answer("some answers are told", true, () -> due.size() > 20);
        Due.answer("what the program prints", due, () -> printed);
    }

    private static void theTestPasses(List<String> printed) {
        Due.answer("what the one test prints", List.of("all answers are as due"), () -> printed);
    }

    private static void everyTestIsTold(List<String> lines) throws IOException {
        Set<String> there = new TreeSet<>();
        try (Stream<Path> files = Files.list(TESTS)) {
            files.forEach(f -> there.add(f.getFileName().toString().replace(".java", "")));
        }
        Set<String> told = new TreeSet<>();
        Matcher names = Pattern.compile("`([A-Z][A-Za-z]*)`").matcher(String.join("\n", lines));
        while (names.find()) {
            told.add(names.group(1));
        }
        told.removeIf(name -> name.endsWith("Exception"));
        Due.answer("the files of the tests", there, () -> told);
    }

    private static void copy(Path directory, Path top) throws IOException {
        Path copied = Files.createDirectories(top.resolve(directory));
        try (Stream<Path> files = Files.list(directory)) {
            for (Path file : files.toList()) {
                Files.copy(file, copied.resolve(file.getFileName()));
            }
        }
    }

    private static List<String> run(String command, Path top) throws IOException, InterruptedException {
        Process shell = new ProcessBuilder("sh", "-e", "-c", command).directory(top.toFile())
            .redirectError(ProcessBuilder.Redirect.INHERIT).start();
        shell.getOutputStream().close();
        List<String> printed = new String(shell.getInputStream().readAllBytes()).lines().toList();
        int code = shell.waitFor();
        Due.answer("the exit code of: " + command.strip().replace("\n", "; "), 0, () -> code);
        return printed;
    }

    private static void delete(Path top) throws IOException {
        List<Path> paths;
        try (Stream<Path> walk = Files.walk(top)) {
            paths = walk.sorted(Comparator.reverseOrder()).toList();
        }
        for (Path path : paths) {
            Files.delete(path);
        }
    }
}
