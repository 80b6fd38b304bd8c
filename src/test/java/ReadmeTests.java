import java.io.IOException;
import java.lang.reflect.Method;
import java.lang.reflect.Modifier;
import java.nio.file.Files;
import java.nio.file.Path;
import java.util.ArrayList;
import java.util.List;
import java.util.regex.Matcher;
import java.util.regex.Pattern;

/** README.md is true: each call that it shows answers as it says, and its commands run the tests. */
public final class ReadmeTests {
    private static final Path README = Path.of("README.md");
    private static final Path OWN = Path.of("src/test/java");
    private static final Path SHARED = Path.of("../shared/tests");
    /** A call, and behind it what it answers, or what it throws. */
    private static final Pattern SHOWN =
        Pattern.compile("(?s)(city\\.(\\w+)\\(.*\\));\\s+// (?:(-?\\d+)|throws (\\w+))(?:\\b[^\n]*)?");
    private static final Pattern MADE = Pattern.compile("BreadCity city = new BreadCity\\(\\);");

    private record Block(String kind, int line, List<String> lines) { }

    public static void main(String[] args) throws IOException, InterruptedException {
        List<String> page = Files.readAllLines(README);
        List<Block> blocks = blocks(page);
        calls(blocks);
        commands(blocks);
        names(String.join("\n", page));
        Check.end("ReadmeTests");
    }

    private static List<Block> blocks(List<String> page) {
        List<Block> blocks = new ArrayList<>();
        Block open = null;
        for (int i = 0; i < page.size(); i++) {
            String line = page.get(i);
            if (open == null && line.startsWith("```")) {
                open = new Block(line.substring(3), i + 2, new ArrayList<>());
            } else if (open != null && line.equals("```")) {
                blocks.add(open);
                open = null;
            } else if (open != null) {
                open.lines.add(line);
            }
        }
        Check.report(open == null, "README.md: a block has no end");
        return blocks;
    }

    // ---- the calls ----

    private static void calls(List<Block> blocks) throws IOException, InterruptedException {
        StringBuilder methods = new StringBuilder();
        StringBuilder main = new StringBuilder();
        List<String> shown = new ArrayList<>();
        for (Block block : blocks) {
            if (!block.kind.equals("java")) {
                continue;
            }
            if (block.lines.get(0).startsWith("static ")) {
                methods.append(String.join("\n", block.lines)).append('\n');
            } else {
                statements(block, main, shown);
            }
        }
        for (Method method : BreadCity.class.getDeclaredMethods()) {
            boolean ofFace = Modifier.isPublic(method.getModifiers());
            Check.report(!ofFace || shown.contains(method.getName()), "README.md does not show " + method.getName());
        }
        run("public final class ReadmeRuns {\n" + methods + "public static void main(String[] args) {\n" + main
            + "Check.end(\"ReadmeRuns\");\n}\n}\n", shown.size());
    }

    private static void statements(Block block, StringBuilder main, List<String> shown) {
        StringBuilder open = new StringBuilder();
        for (int i = 0; i < block.lines.size(); i++) {
            String line = block.lines.get(i);
            if (line.startsWith("//")) {
                continue;
            }
            open.append(open.length() == 0 ? "" : "\n").append(line);
            if (line.matches(".*;\\s*(//.*)?")) {
                main.append(checked(open.toString(), "README.md, line " + (block.line + i) + ": ", shown)).append('\n');
                open.setLength(0);
            }
        }
        Check.report(open.length() == 0, "README.md: no statement: " + open);
    }

    private static String checked(String statement, String where, List<String> shown) {
        Matcher m = SHOWN.matcher(statement);
        if (!m.matches()) {
            Check.report(MADE.matcher(statement).matches(), where + "no answer stands behind " + statement);
            return statement;
        }
        shown.add(m.group(2));
        String what = "\"" + where + m.group(2) + "\"";
        if (m.group(3) != null) {
            return "Check.is(" + what + ", " + m.group(1) + ", " + m.group(3) + "L);";
        }
        boolean missing = m.group(4).equals("NoSuchElementException");
        Check.report(missing || m.group(4).equals("IllegalArgumentException"), where + "no call throws " + m.group(4));
        return "Check." + (missing ? "missing" : "unfit") + "(" + what + ", () -> " + m.group(1) + ");";
    }

    private static void run(String source, int many) throws IOException, InterruptedException {
        Path folder = Files.createTempDirectory("readme");
        Path file = folder.resolve("ReadmeRuns.java");
        Files.writeString(file, source);
        String classes = System.getProperty("java.class.path");
        Shell compiled = Shell.run(Path.of("."), "javac -cp '" + classes + "' -d '" + folder + "' '" + file + "'");
        Check.report(compiled.exit == 0, "what README.md shows does not compile:\n" + compiled.output);
        Shell ran = Shell.run(Path.of("."), "java -cp '" + folder + ":" + classes + "' ReadmeRuns");
        Check.report(ran.exit == 0 && ran.output.contains("ReadmeRuns: " + many + " answers as due, 0 not"), ran.output);
        Shell.remove(folder);
    }

    // ---- the commands ----

    private static void commands(List<Block> blocks) throws IOException, InterruptedException {
        List<String> all = new ArrayList<>();
        for (Block block : blocks) {
            if (block.kind.equals("sh")) {
                all.add(String.join("\n", block.lines));
            }
        }
        Check.report(all.size() == 2, "README.md names two commands, not " + all.size());
        Shell every = Shell.run(Path.of("."), all.get(0));
        Check.report(every.exit == 0, all.get(0) + " failed:\n" + every.output);
        for (String name : tests(OWN, "Tests.java")) {
            boolean leftOut = name.equals("ReadmeTests") || name.equals("CiTests");
            Check.report(leftOut || every.says("ok      " + name), all.get(0) + " did not run " + name);
        }
        for (String name : tests(SHARED, ".java")) {
            Check.report(every.says("ok      ../shared/tests/" + name), all.get(0) + " did not run the shared " + name);
        }
        Shell one = Shell.run(Path.of("."), all.get(1));
        String name = all.get(1).substring(all.get(1).lastIndexOf(' ') + 1);
        Check.report(tests(OWN, "Tests.java").contains(name), name + " is no test");
        Check.report(one.exit == 0 && one.output.startsWith(name + ": "), all.get(1) + " failed:\n" + one.output);
    }

    private static List<String> tests(Path folder, String tail) throws IOException {
        List<String> names = new ArrayList<>();
        try (var files = Files.list(folder)) {
            for (Path file : (Iterable<Path>) files.sorted()::iterator) {
                String name = file.getFileName().toString();
                if (name.endsWith(tail)) {
                    names.add(name.substring(0, name.length() - ".java".length()));
                }
            }
        }
        Check.report(!names.isEmpty(), "no tests in " + folder);
        return names;
    }

    private static void names(String page) throws IOException {
        for (String name : tests(OWN, "Tests.java")) {
            Check.report(page.contains("`" + name + "`"), "README.md does not name " + name);
        }
        Matcher m = Pattern.compile("`(\\w+Tests)`").matcher(page);
        while (m.find()) {
            Check.report(Files.exists(OWN.resolve(m.group(1) + ".java")), "README.md names " + m.group(1) + ", there is none");
        }
    }
}
