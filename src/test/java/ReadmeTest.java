import java.io.IOException;
import java.lang.reflect.Method;
import java.lang.reflect.Modifier;
import java.nio.file.Files;
import java.nio.file.Path;
import java.util.List;
import java.util.stream.Collectors;

/** What README.md shows is run as it stands there, so that it can't fall behind the class. */
public final class ReadmeTest extends Checks {
    private static final Path README = Path.of("README.md");
    private static final Path PROGRAM = Path.of("src/main/java/SnapshotTrie.java");
    private static final String PRINTS = "System.out.println(";

    public static void main(String[] args) {
        runTestsOf(ReadmeTest.class);
    }

    @Says(where = "README.md, Compile and Use", words = "Each line that prints is followed by what it prints")
    static void theCommandsRunTheExampleAndItAnswersAsSaid() throws IOException, InterruptedException {
        List<String> example = block("java");
        Path directory = Files.createTempDirectory("readme");
        Files.createDirectories(directory.resolve(PROGRAM).getParent());
        Files.copy(PROGRAM, directory.resolve(PROGRAM));
        Files.write(directory.resolve("Example.java"), example);
        dueYes("the example prints something", example.stream().anyMatch(line -> line.contains(PRINTS)));
        due("the example", saidAnswers(example), output(directory, String.join("\n", block("sh"))));
    }

    @Says(where = "README.md, Use", words = "the example and the table have every call of the face")
    static void everyCallIsShown() throws IOException {
        String example = String.join("\n", block("java"));
        String readme = Files.readString(README);
        for (Method method : SnapshotTrie.class.getDeclaredMethods()) {
            if (Modifier.isPublic(method.getModifiers())) {
                String name = method.getName();
                dueYes(name + " in the example", example.contains("trie." + name + "("));
                due("parameters of " + name + " in the table", method.getParameterCount(), parametersInTable(readme, name));
            }
        }
    }

    /** The lines between the fence that opens a block of this language and the one that closes it. */
    private static List<String> block(String language) throws IOException {
        List<String> lines = Files.readAllLines(README);
        int from = lines.indexOf("```" + language) + 1;
        int length = lines.subList(from, lines.size()).indexOf("```");
        return lines.subList(from, from + length);
    }

    private static String saidAnswers(List<String> example) {
        return example.stream()
            .filter(line -> line.contains(PRINTS))
            .map(line -> line.substring(line.lastIndexOf("// ") + 3))
            .collect(Collectors.joining("\n"));
    }

    private static String output(Path directory, String commands) throws IOException, InterruptedException {
        Process process = new ProcessBuilder("sh", "-e", "-c", commands)
            .directory(directory.toFile())
            .redirectErrorStream(true)
            .start();
        String printed = new String(process.getInputStream().readAllBytes()).strip();
        due("exit code of the commands", 0, process.waitFor());
        return printed;
    }

    /** -1 when the table has no such call. */
    private static int parametersInTable(String readme, String name) {
        String row = "\n| `" + name + "(";
        int from = readme.indexOf(row);
        if (from < 0) {
            return -1;
        }
        String parameters = readme.substring(from + row.length(), readme.indexOf(')', from));
        return parameters.isEmpty() ? 0 : parameters.split(",").length;
    }
}
