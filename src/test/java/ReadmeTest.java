import java.io.File;
import java.io.IOException;
import java.lang.reflect.Method;
import java.nio.file.Files;
import java.nio.file.Path;
import java.util.List;

/** What README.md says is so; it is looked for where the test is run. */
public final class ReadmeTest extends Checks {
    private static final String FENCE = "```";

    public static void main(String[] args) throws IOException, InterruptedException {
        subject("README.md");
        List<String> lines = Files.readAllLines(Path.of("README.md"));
        exampleDoesAsTold(lines);
        everyCallIsNamed(String.join("\n", lines));
        everyTestIsNamed(String.join("\n", lines));
        closeTest();
    }

    private static void exampleDoesAsTold(List<String> lines) throws IOException, InterruptedException {
        // Beside this test's own classes, so that it goes with them.
        Path place = Files.createTempDirectory(Path.of(System.getProperty("java.class.path")), "readme");
        Files.writeString(place.resolve("Example.java"), block(lines, "java"));
        Path sources = Files.createDirectories(place.resolve("src/main/java"));
        Files.copy(Path.of("src/main/java/KeeperTree.java"), sources.resolve("KeeperTree.java"));
        String printed = "";
        for (String command : block(lines, "sh").split("\n")) {
            printed += output(place, command);
        }
        dueText("the example", printed, block(lines, "text"));
    }

    /** The lines of the first block of that sort. */
    private static String block(List<String> lines, String sort) {
        StringBuilder block = new StringBuilder();
        int start = lines.indexOf(FENCE + sort);
        for (int i = start + 1; start >= 0 && !lines.get(i).equals(FENCE); i++) {
            block.append(lines.get(i)).append('\n');
        }
        return block.toString();
    }

    private static String output(Path place, String command) throws IOException, InterruptedException {
        Process process = new ProcessBuilder(command.split(" ")).directory(place.toFile())
                .redirectErrorStream(true).start();
        String output = new String(process.getInputStream().readAllBytes());
        due("exit code of " + command, process.waitFor(), 0);
        return output;
    }

    private static void everyCallIsNamed(String readme) {
        for (Method call : Face.class.getMethods()) {
            due("it names " + call.getName(), readme.contains("`" + call.getName() + "("), true);
        }
    }

    private static void everyTestIsNamed(String readme) {
        for (File test : new File("src/test/java").listFiles()) {
            String name = test.getName().replace(".java", "");
            due("it names " + name, readme.contains("`" + name + "`"), true);
        }
    }
}
