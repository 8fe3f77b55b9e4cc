import java.io.IOException;
import java.lang.reflect.Method;
import java.lang.reflect.Modifier;
import java.nio.file.Files;
import java.nio.file.Path;
import java.util.ArrayList;
import java.util.List;
import java.util.stream.Collectors;
import java.util.stream.Stream;

/** What README.md says holds when it is done as written, but that a folder of its own stands in for those in /tmp. */
public final class ReadmeTest {
    public static void main(String[] args) throws IOException, InterruptedException {
        List<String> page = Files.readAllLines(Path.of("README.md"));
        example(page);
        oneTestByItself(page);
        names(String.join("\n", page));
        Check.end("ReadmeTest");
    }

    private static void example(List<String> page) throws IOException, InterruptedException {
        List<String> program = page.subList(page.indexOf("```java") + 1, page.lastIndexOf("```"));
        Path folder = Files.createTempDirectory("noon");
        try {
            Files.write(folder.resolve("Noon.java"), program);
            List<String> told = new ArrayList<>();
            for (String line : program) {
                if (line.contains("println(")) told.add(line.substring(line.lastIndexOf("// ") + 3));
            }
            told.add("exit code 0");
            Check.due("the example", run(command(page, "Noon"), "/tmp/noon", folder), told);
        } finally {
            remove(folder);
        }
    }

    private static void oneTestByItself(List<String> page) throws IOException, InterruptedException {
        Path folder = Files.createTempDirectory("one");
        try {
            List<String> got = run(command(page, "TicksTest"), "/tmp/heliokeep", folder);
            Check.due("one test's lines", got.size(), 2);
            Check.due("one test's name", got.get(0).startsWith("TicksTest: "), true);
            Check.due("one test's end", got.get(got.size() - 1), "exit code 0");
        } finally {
            remove(folder);
        }
    }

    private static void names(String page) throws IOException {
        for (Method method : Heliokeep.class.getDeclaredMethods()) {
            if (!Modifier.isPublic(method.getModifiers())) continue;
            Check.due(method.getName() + " is named", page.contains("`" + method.getName() + "`"), true);
        }
        try (Stream<Path> tests = Files.list(Path.of("src/test/java"))) {
            for (Path test : tests.collect(Collectors.toList())) {
                String name = test.getFileName().toString().replace(".java", "");
                if (name.endsWith("Test")) Check.due(name + " is named", page.contains("`" + name + "`"), true);
            }
        }
        Check.due("the way to run all tests", page.contains("\n    bash .ci/run\n") && Files.exists(Path.of(".ci/run")),
                true);
    }

    /** The page's command that ends with a class's name. */
    private static String command(List<String> page, String name) {
        for (String line : page) {
            if (line.startsWith("    javac ") && line.endsWith(" " + name)) return line.trim();
        }
        return "false";
    }

    private static List<String> run(String command, String named, Path folder)
            throws IOException, InterruptedException {
        ProcessBuilder shell = new ProcessBuilder("bash", "-c", command.replace(named, folder.toString()));
        Process process = shell.redirectErrorStream(true).start();
        List<String> lines = new String(process.getInputStream().readAllBytes()).lines().collect(Collectors.toList());
        lines.add("exit code " + process.waitFor());
        return lines;
    }

    private static void remove(Path folder) throws IOException {
        try (Stream<Path> files = Files.list(folder)) {
            for (Path file : files.collect(Collectors.toList())) Files.delete(file);
        }
        Files.delete(folder);
    }
}
