import java.io.IOException;
import java.nio.charset.StandardCharsets;
import java.nio.file.Files;
import java.nio.file.Path;
import java.util.Comparator;
import java.util.List;

/** A command that was run by a shell in a folder: what it printed, and how it ended. */
final class Shell {
    final int exit;
    final String output;

    private Shell(int exit, String output) {
        this.exit = exit;
        this.output = output;
    }

    static Shell run(Path folder, String command) throws IOException, InterruptedException {
        ProcessBuilder builder = new ProcessBuilder("sh", "-c", command).directory(folder.toFile()).redirectErrorStream(true);
        // by this .ci/run leaves out the tests that run it
        builder.environment().put("WITHIN_TESTS", "1");
        Process process = builder.start();
        process.getOutputStream().close();
        String output = new String(process.getInputStream().readAllBytes(), StandardCharsets.UTF_8);
        return new Shell(process.waitFor(), output);
    }

    boolean says(String line) {
        return List.of(output.split("\n")).contains(line);
    }

    static void remove(Path folder) throws IOException {
        try (var files = Files.walk(folder)) {
            for (Path file : (Iterable<Path>) files.sorted(Comparator.reverseOrder())::iterator) {
                Files.delete(file);
            }
        }
    }
}
