import java.io.IOException;
import java.lang.reflect.Method;
import java.lang.reflect.Modifier;
import java.nio.charset.StandardCharsets;
import java.nio.file.Files;
import java.nio.file.Path;
import java.util.ArrayList;
import java.util.Comparator;
import java.util.List;
import java.util.TreeSet;
import java.util.regex.Matcher;
import java.util.regex.Pattern;
import java.util.stream.Collectors;
import java.util.stream.Stream;

/** README.md, followed word by word in a copy of the project's files. To be run in the directory of README.md. */
public final class ReadmeTest {
    private static final Path PROJECT = Path.of("");
    private static final Pattern BLOCK = Pattern.compile("```(\\w+)\n(.*?)```", Pattern.DOTALL);

    public static void main(String[] args) throws IOException, InterruptedException {
        String readme = Files.readString(PROJECT.resolve("README.md"));
        Path copy = Files.createTempDirectory("readme");
        try {
            copySources(copy);
            example(readme, copy);
            singleTest(readme, copy);
        } finally {
            delete(copy);
        }
        Checks.due("README: the script of the tests", blocks(readme, "sh").get(1), ".ci/run\n");
        Checks.due("README: it can be executed", Files.isExecutable(PROJECT.resolve(".ci/run")), true);
        listsEveryCall(readme);
        listsEveryTest(readme);
        Checks.end("ReadmeTest");
    }

    private static void example(String readme, Path copy) throws IOException, InterruptedException {
        Files.writeString(copy.resolve("Example.java"), blocks(readme, "java").get(0));
        Checks.due("README: the example", follow(blocks(readme, "sh").get(0), copy), blocks(readme, "text").get(0));
    }

    private static void singleTest(String readme, Path copy) throws IOException, InterruptedException {
        String commands = blocks(readme, "sh").get(2);
        Checks.due("README: a single test", follow(commands, copy), "SaleTest: all answers are as due\n");
    }

    /** What the commands print, and the exit code of a command that fails, which ends them. */
    private static String follow(String commands, Path directory) throws IOException, InterruptedException {
        Process shell = new ProcessBuilder("sh", "-e", "-c", commands).directory(directory.toFile())
            .redirectError(ProcessBuilder.Redirect.INHERIT).start();
        String printed = new String(shell.getInputStream().readAllBytes(), StandardCharsets.UTF_8);
        int exit = shell.waitFor();
        return exit == 0 ? printed : printed + "exit code " + exit;
    }

    private static void listsEveryCall(String readme) {
        TreeSet<String> calls = new TreeSet<>();
        for (Method method : ProphecyShop.class.getDeclaredMethods()) {
            if (Modifier.isPublic(method.getModifiers())) {
                calls.add(method.getName());
            }
        }
        String table = between(readme, "| about | calls |", "\n\n");
        TreeSet<String> listed = words(table, "`(\\w+)`");
        Checks.due("README: the calls", listed.toString(), calls.toString());
    }

    private static void listsEveryTest(String readme) throws IOException {
        TreeSet<String> tests = new TreeSet<>();
        for (Path file : filesUnder(PROJECT.resolve("src/test/java"))) {
            String name = file.getFileName().toString();
            if (name.endsWith("Test.java")) {
                tests.add(name.substring(0, name.length() - ".java".length()));
            }
        }
        TreeSet<String> listed = words(between(readme, "| test | promises |", "\n\n"), "(\\w+Test)\\b");
        Checks.due("README: the tests", listed.toString(), tests.toString());
    }

    // ---- texts

    private static List<String> blocks(String readme, String language) {
        List<String> found = new ArrayList<>();
        for (Matcher m = BLOCK.matcher(readme); m.find();) {
            if (m.group(1).equals(language)) {
                found.add(m.group(2));
            }
        }
        return found;
    }

    private static String between(String text, String first, String last) {
        int from = text.indexOf(first);
        return text.substring(from, text.indexOf(last, from));
    }

    private static TreeSet<String> words(String text, String pattern) {
        TreeSet<String> found = new TreeSet<>();
        for (Matcher m = Pattern.compile(pattern).matcher(text); m.find();) {
            found.add(m.group(1));
        }
        return found;
    }

    // ---- files

    private static List<Path> filesUnder(Path directory) throws IOException {
        try (Stream<Path> files = Files.walk(directory)) {
            return files.filter(Files::isRegularFile).collect(Collectors.toList());
        }
    }

    private static void copySources(Path copy) throws IOException {
        for (Path file : filesUnder(PROJECT.resolve("src"))) {
            Path target = copy.resolve(file.toString());
            Files.createDirectories(target.getParent());
            Files.copy(file, target);
        }
    }

    private static void delete(Path directory) throws IOException {
        try (Stream<Path> files = Files.walk(directory)) {
            for (Path file : files.sorted(Comparator.reverseOrder()).collect(Collectors.toList())) {
                Files.delete(file);
            }
        }
    }
}
