import java.io.IOException;
import java.nio.file.Files;
import java.nio.file.Path;
import java.nio.file.StandardCopyOption;
import java.util.ArrayList;
import java.util.List;

/** .ci/run on small projects: it passes where all is well, and fails by whatever is broken. */
public final class CiTests {
    private static final String FINE = "public final class FineTests { public static void main(String[] args) {"
        + " Check.sentence(\"All is well.\"); Check.is(\"told(5)\", new BreadCity().told(5), 15); Check.end(\"FineTests\"); } }";
    private static final String BROKEN = "public final class BrokenTests { public static void main(String[] args) {"
        + " Check.is(\"told(5)\", new BreadCity().told(5), 16); Check.end(\"BrokenTests\"); } }";
    private static final String FINE_RUNS = "public final class FineRuns { public static void main(String[] args) {"
        + " if (new BreadCity().told(6) != 15) System.exit(1); } }";
    private static final String BROKEN_RUNS = "public final class BrokenRuns { public static void main(String[] args) {"
        + " if (new BreadCity().told(6) != 16) System.exit(1); } }";

    private interface Change {
        void on(Path project) throws IOException;
    }

    /** A small project of its own, so that all can be run at once. */
    private static final class Trial extends Thread {
        private final String name;
        private final Change change;
        private final List<String> lines;
        private Shell shell;

        Trial(String name, Change change, String... lines) {
            this.name = name;
            this.change = change;
            this.lines = List.of(lines);
        }

        @Override public void run() {
            try {
                Path folder = Files.createTempDirectory("ci");
                Path project = small(folder);
                change.on(project);
                shell = Shell.run(folder, "main/.ci/run");
                Shell.remove(folder);
            } catch (IOException | InterruptedException e) {
                System.out.println(name + ": " + e);
            }
        }

        void judge(boolean passes) {
            Check.report(shell != null, name + ": could not be run");
            if (shell == null) {
                return;
            }
            Check.report(passes == (shell.exit == 0), name + ": .ci/run ended with " + shell.exit + "\n" + shell.output);
            for (String line : lines) {
                Check.report(shell.says(line), name + ": .ci/run did not say " + line + "\n" + shell.output);
            }
        }
    }

    public static void main(String[] args) throws InterruptedException {
        Trial fine = new Trial("a whole project", project -> { },
            "ok      FineTests", "ok      Ledger", "ok      ../shared/tests/FineRuns", "5 passed, 0 failed");
        List<Trial> broken = new ArrayList<>();
        broken.add(new Trial("a test that fails", project -> write(project, "src/test/java/BrokenTests.java", BROKEN),
            "FAILED  BrokenTests", "ok      FineTests", "ok      ../shared/tests/FineRuns"));
        broken.add(new Trial("a shared test that fails", project -> write(project, "../shared/tests/BrokenRuns.java", BROKEN_RUNS),
            "FAILED  ../shared/tests/BrokenRuns", "ok      ../shared/tests/FineRuns"));
        broken.add(new Trial("no shared test", project -> Files.delete(project.resolve("../shared/tests/FineRuns.java")),
            "FAILED  no test under ../shared/tests"));
        broken.add(new Trial("a sentence that no test names", project -> write(project, "../shared/DOC.md",
            "## Terms All is well. All else, too. ## Not promised"), "FAILED  Ledger"));
        fine.start();
        for (Trial trial : broken) trial.start();
        fine.join();
        for (Trial trial : broken) trial.join();
        fine.judge(true);
        for (Trial trial : broken) trial.judge(false);
        Check.end("CiTests");
    }

    private static Path small(Path folder) throws IOException {
        Path project = folder.resolve("main");
        for (String name : List.of(".ci", "src/main/java", "src/test/java", "../shared/tests")) {
            Files.createDirectories(project.resolve(name).normalize());
        }
        for (String name : List.of(".ci/run", "src/main/java/BreadCity.java", "src/test/java/Check.java",
                "src/test/java/Ledger.java")) {
            Files.copy(Path.of(name), project.resolve(name), StandardCopyOption.COPY_ATTRIBUTES);
        }
        write(project, "../shared/DOC.md", "## Terms All is well. ## Not promised");
        write(project, "../shared/tests/FineRuns.java", FINE_RUNS);
        write(project, "src/test/java/FineTests.java", FINE);
        return project;
    }

    private static void write(Path project, String name, String text) throws IOException {
        Files.writeString(project.resolve(name).normalize(), text + "\n");
    }
}
