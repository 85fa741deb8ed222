import java.io.IOException;
import java.lang.reflect.Method;
import java.lang.reflect.Modifier;
import java.nio.file.Files;
import java.nio.file.Path;
import java.util.ArrayList;
import java.util.Comparator;
import java.util.List;
import java.util.Set;
import java.util.TreeSet;
import java.util.regex.Matcher;
import java.util.regex.Pattern;
import java.util.stream.Collectors;
import java.util.stream.Stream;

/** What README.md says of use and of running the tests is so. */
public final class ReadmeTest {
    private static final Path EXAMPLE = Path.of("src/example/java/Supper.java"), TESTS = Path.of("src/test/java");

    private static List<String> blocks(String page, String language) {
        List<String> blocks = new ArrayList<>();
        Matcher found = Pattern.compile("(?s)```" + language + "\n(.*?)```").matcher(page);
        while (found.find()) {
            blocks.add(found.group(1));
        }
        return blocks;
    }

    /** A copy of the project with ../shared beside it, so that commands leave nothing behind in the project itself. */
    private static Path copied(Path room) throws IOException {
        Path project = Files.createDirectories(room.resolve("project"));
        Files.createSymbolicLink(room.resolve("shared"), Path.of("../shared").toRealPath());
        for (Path from : filesUnder(Path.of("src"))) {
            Path to = project.resolve(from);
            Files.createDirectories(to.getParent());
            Files.copy(from, to);
        }
        return project;
    }

    private static List<Path> filesUnder(Path directory) throws IOException {
        try (Stream<Path> all = Files.walk(directory)) {
            return all.filter(Files::isRegularFile).collect(Collectors.toList());
        }
    }

    private static void remove(Path room) throws IOException {
        try (Stream<Path> all = Files.walk(room)) {
            for (Path one : all.sorted(Comparator.reverseOrder()).collect(Collectors.toList())) {
                Files.delete(one);
            }
        }
    }

    /** What the command printed, if it ended with 0. */
    private static String ran(Path project, String command) throws IOException, InterruptedException {
        Process run = new ProcessBuilder("sh", "-c", command).directory(project.toFile())
            .redirectErrorStream(true).start();
        String printed = new String(run.getInputStream().readAllBytes());
        int end = run.waitFor();
        Check.holds("ends with 0: " + command + "\n" + printed, end == 0);
        return printed;
    }

    private static void commands(String page) throws IOException, InterruptedException {
        Path room = Files.createTempDirectory("readme");
        try {
            Path project = copied(room);
            List<String> printed = new ArrayList<>();
            for (String block : blocks(page, "sh")) {
                for (String command : block.split("\n")) {
                    printed.add(ran(project, command));
                }
            }
            for (String text : blocks(page, "text")) {
                Check.holds("a command prints:\n" + text + "but they print:\n" + printed, printed.contains(text));
            }
        } finally {
            remove(room);
        }
    }

    private static void example(String page) throws IOException {
        Check.holds("the example is that of " + EXAMPLE, blocks(page, "java").equals(
            List.of(Files.readString(EXAMPLE))));
    }

    private static void calls(String page) {
        for (Method method : LaidQuarrel.class.getDeclaredMethods()) {
            if (Modifier.isPublic(method.getModifiers())) {
                Matcher told = Pattern.compile("`" + method.getName() + "\\(([^)`]*)\\)`").matcher(page);
                boolean found = told.find();
                int many = !found || told.group(1).isEmpty() ? 0 : told.group(1).split(",").length;
                Check.holds("tells of " + method, found && many == method.getParameterCount());
            }
        }
    }

    private static void tests(String page) throws IOException {
        Set<String> told = new TreeSet<>();
        Matcher found = Pattern.compile("(?m)^\\| `(\\w+Test)` \\|").matcher(page);
        while (found.find()) {
            told.add(found.group(1));
        }
        Set<String> there = new TreeSet<>();
        for (Path file : filesUnder(TESTS)) {
            String name = file.getFileName().toString().replace(".java", "");
            if (name.endsWith("Test")) {
                there.add(name);
            } else {
                Check.holds("tells of " + name, page.contains("`" + name + "`"));
            }
        }
        Check.holds("tells of the tests " + there + ", and of no other: " + told, there.equals(told));
    }

    public static void main(String[] args) throws IOException, InterruptedException {
        String page = Files.readString(Path.of("README.md"));
        example(page);
        calls(page);
        tests(page);
        commands(page);
        Check.end("ReadmeTest");
    }
}
