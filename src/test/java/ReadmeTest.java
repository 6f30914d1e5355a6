import java.io.IOException;
import java.lang.reflect.Method;
import java.lang.reflect.Modifier;
import java.nio.file.Files;
import java.nio.file.Path;
import java.util.ArrayList;
import java.util.List;
import java.util.Set;
import java.util.TreeSet;
import java.util.concurrent.TimeUnit;
import java.util.regex.MatchResult;
import java.util.regex.Pattern;
import java.util.stream.Stream;

/** What README.md says holds when it is followed word for word; it is read from the folder that .ci/run stands in. */
public final class ReadmeTest {
    private static final String MAIN = "src/main/java/GaugeHall.java";
    private static final int MOST_SECONDS = 300;

    public static void main(String[] args) throws IOException, InterruptedException {
        String readme = Files.readString(Path.of("README.md"));
        exampleTells(readme);
        callsAreTheFace(readme);
        testsAreAll(readme);
        Expect.end();
    }

    private static List<MatchResult> found(String pattern, String text) {
        return Pattern.compile(pattern, Pattern.MULTILINE).matcher(text).results().toList();
    }

    // The example

    private static void exampleTells(String readme) throws IOException, InterruptedException {
        List<MatchResult> blocks = found("^```java\\n([^`]*)^```", readme);
        Expect.same("how many examples there are", 1, () -> blocks.size());
        if (blocks.size() != 1) {
            return;
        }
        String example = blocks.get(0).group(1);
        List<String> due = new ArrayList<>();
        for (MatchResult line : found("System\\.out\\.println\\(.*\\);\\s*// (.*)$", example)) {
            due.add(line.group(1));
        }
        Path folder = Files.createTempDirectory("readme");
        try {
            Path copy = folder.resolve(MAIN);
            Files.createDirectories(copy.getParent());
            Files.copy(Path.of(MAIN), copy);
            Files.writeString(folder.resolve("Example.java"), example);
            List<String> printed = followed(commands(readme), folder);
            Expect.same("what the example prints", due, () -> printed);
        } finally {
            remove(folder);
        }
    }

    private static List<String> commands(String readme) {
        List<String> commands = new ArrayList<>();
        for (MatchResult line : found("^    (java.*)$", readme)) {
            boolean isOfTheExample = line.group(1).contains("Example");
            if (isOfTheExample) {
                commands.add(line.group(1));
            }
        }
        Expect.same("how many commands the example takes", 2, () -> commands.size());
        return commands;
    }

    private static List<String> followed(List<String> commands, Path folder) throws IOException, InterruptedException {
        Path printed = folder.resolve("printed");
        for (String command : commands) {
            Process process = new ProcessBuilder(command.split(" ")).directory(folder.toFile())
                    .redirectError(ProcessBuilder.Redirect.INHERIT).redirectOutput(printed.toFile()).start();
            boolean isEnded = process.waitFor(MOST_SECONDS, TimeUnit.SECONDS);
            Expect.same(command + " ends", true, () -> isEnded);
            process.destroyForcibly();
            Expect.same(command + " ends with", 0, () -> process.exitValue());
        }
        return Files.readAllLines(printed);
    }

    private static void remove(Path folder) throws IOException {
        List<Path> inside;
        try (Stream<Path> paths = Files.walk(folder)) {
            inside = new ArrayList<>(paths.toList());
        }
        for (int k = inside.size() - 1; k >= 0; k--) {
            Files.delete(inside.get(k));
        }
    }

    // The tables

    private static void callsAreTheFace(String readme) {
        Set<String> told = new TreeSet<>();
        for (MatchResult row : found("^\\| `(\\w+)\\((.*)\\)` \\|[^|]+\\| *([\\w, ]*?) *\\|$", readme)) {
            int arguments = row.group(2).isEmpty() ? 0 : row.group(2).split(", ").length;
            told.add(row.group(1) + " takes " + arguments + ", throws " + row.group(3));
        }
        Set<String> face = new TreeSet<>();
        for (Method method : GaugeHall.class.getDeclaredMethods()) {
            if (Modifier.isPublic(method.getModifiers())) {
                face.add(method.getName() + " takes " + method.getParameterCount() + ", throws " + thrown(method));
            }
        }
        Expect.same("the calls", face, () -> told);
    }

    private static String thrown(Method method) {
        List<String> names = new ArrayList<>();
        for (Class<?> type : method.getExceptionTypes()) {
            names.add(type.getSimpleName());
        }
        return String.join(", ", names);
    }

    private static void testsAreAll(String readme) throws IOException {
        Set<String> told = new TreeSet<>();
        for (MatchResult row : found("^\\| (`\\w+Test`.*) \\|.*\\|$", readme)) {
            for (MatchResult name : found("`(\\w+Test)`", row.group(1))) {
                told.add(name.group(1) + ".java");
            }
        }
        Set<String> there = new TreeSet<>();
        try (Stream<Path> files = Files.list(Path.of("src/test/java"))) {
            files.map(file -> file.getFileName().toString()).filter(name -> name.endsWith("Test.java"))
                    .forEach(there::add);
        }
        Expect.same("the tests", there, () -> told);
    }
}
