import java.io.IOException;
import java.lang.reflect.Method;
import java.lang.reflect.Modifier;
import java.nio.charset.StandardCharsets;
import java.nio.file.Files;
import java.nio.file.Path;
import java.util.ArrayList;
import java.util.Comparator;
import java.util.List;
import java.util.regex.Matcher;
import java.util.regex.Pattern;
import java.util.stream.Stream;

/** What README.md says of the use of the class and of the running of its tests; run in the folder of the project. */
public final class ReadmeTest {
    private static final Check check = new Check("ReadmeTest");
    private static final Path TESTS = Path.of("src", "test", "java");

    public static void main(String[] args) throws IOException, InterruptedException {
        String readme = Files.readString(Path.of("README.md"));
        Path folder = Files.createTempDirectory("readme");
        try {
            copySources(folder);
            shownProgram(readme, folder);
            shownCommands(readme, folder);
        } finally {
            delete(folder);
        }
        shownText(readme);
        namedTests(readme);
        namedCalls(readme);
        check.end();
    }

    /** The blocks of README.md in one language, in their order. */
    private static List<String> blocks(String readme, String language) {
        List<String> blocks = new ArrayList<>();
        Matcher matcher = Pattern.compile("^```" + language + "\n(.*?)^```$", Pattern.DOTALL | Pattern.MULTILINE)
            .matcher(readme);
        while (matcher.find()) {
            blocks.add(matcher.group(1));
        }
        return blocks;
    }

    private static void shownProgram(String readme, Path folder) throws IOException, InterruptedException {
        Files.writeString(folder.resolve("Example.java"), blocks(readme, "java").get(0));
        String printed = run(blocks(readme, "sh").get(0), folder);
        check.due("what the program shown prints", printed, blocks(readme, "text").get(1) + "exit 0");
    }

    private static void shownCommands(String readme, Path folder) throws IOException, InterruptedException {
        check.due("the script named", blocks(readme, "sh").get(1), ".ci/run\n");
        check.due("it can be run", Files.isExecutable(Path.of(".ci", "run")) ? 1 : 0, 1);
        String printed = run(blocks(readme, "sh").get(2), folder);
        check.due("the commands shown end well: " + printed, printed.endsWith("exit 0") ? 1 : 0, 1);
        for (String test : new String[] {"PromiseTest", "OracleTest"}) {
            check.due(test + " has been run by them", printed.contains(test + ": ") ? 1 : 0, 1);
        }
        check.due("as many texts as told have been taken", sumOf(printed, "texts by code:"), 500);
    }

    /** The sum of the numbers in the line that begins so. */
    private static int sumOf(String printed, String beginning) {
        int sum = 0;
        for (String line : printed.split("\n")) {
            if (line.startsWith(beginning)) {
                for (String number : line.substring(beginning.length()).trim().split(" ")) {
                    sum += Integer.parseInt(number);
                }
            }
        }
        return sum;
    }

    private static void shownText(String readme) {
        check.fine(blocks(readme, "text").get(0).strip());
    }

    private static void namedTests(String readme) throws IOException {
        try (Stream<Path> files = Files.list(TESTS)) {
            for (Path file : files.sorted().toList()) {
                String name = file.getFileName().toString().replace(".java", "");
                check.due(name + " is named", readme.contains("`" + name + "`") ? 1 : 0, 1);
            }
        }
        Matcher matcher = Pattern.compile("`(\\w+Test)`").matcher(readme);
        while (matcher.find()) {
            String file = matcher.group(1) + ".java";
            check.due(file + " is there", Files.exists(TESTS.resolve(file)) ? 1 : 0, 1);
        }
    }

    private static void namedCalls(String readme) {
        for (Method method : CipherNotation.class.getDeclaredMethods()) {
            if (Modifier.isPublic(method.getModifiers())) {
                check.due(method.getName() + " is named", readme.contains("`" + method.getName() + "(") ? 1 : 0, 1);
            }
        }
    }

    private static String run(String commands, Path folder) throws IOException, InterruptedException {
        Process process = new ProcessBuilder("sh", "-e", "-c", commands).directory(folder.toFile())
            .redirectError(ProcessBuilder.Redirect.INHERIT).start();
        String printed = new String(process.getInputStream().readAllBytes(), StandardCharsets.UTF_8);
        return printed + "exit " + process.waitFor();
    }

    private static void copySources(Path folder) throws IOException {
        try (Stream<Path> files = Files.walk(Path.of("src"))) {
            for (Path file : files.sorted().toList()) {
                Files.copy(file, folder.resolve(file.toString()));
            }
        }
    }

    private static void delete(Path folder) throws IOException {
        try (Stream<Path> files = Files.walk(folder)) {
            for (Path file : files.sorted(Comparator.reverseOrder()).toList()) {
                Files.delete(file);
            }
        }
    }
}
