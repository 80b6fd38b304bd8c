import java.io.IOException;
import java.lang.reflect.Field;
import java.lang.reflect.Method;
import java.lang.reflect.Modifier;
import java.nio.charset.StandardCharsets;
import java.nio.file.Files;
import java.nio.file.Path;
import java.util.ArrayList;
import java.util.HashSet;
import java.util.List;
import java.util.Set;
import java.util.TreeSet;
import java.util.regex.Matcher;
import java.util.regex.Pattern;

/** The face is the document's, and what of LANGUAGE.md a program can look for is kept. Run from the project's folder. */
public final class LanguageTests {
    private static final Path SOURCE = Path.of("src/main/java/BreadCity.java");
    private static final Path DOCUMENT = Path.of("../shared/DOC.md");

    public static void main(String[] args) throws IOException {
        face();
        members();
        words(bare(Files.readString(SOURCE, StandardCharsets.ISO_8859_1)));
        Check.end("LanguageTests");
    }

    private static void face() throws IOException {
        Set<String> due = new TreeSet<>();
        String page = Files.readString(DOCUMENT);
        Matcher m = Pattern.compile("(?m)^ {4}public (int|long) (\\w+)\\(([^)]*)\\)( throws [\\w, ]+)?;").matcher(page);
        while (m.find()) {
            String types = m.group(3).replaceAll(" \\w+(?=,|$)", "");
            due.add(m.group(1) + " " + m.group(2) + "(" + types + ")" + (m.group(4) == null ? "" : m.group(4)));
        }
        Set<String> have = new TreeSet<>();
        for (Method method : BreadCity.class.getDeclaredMethods()) {
            if (!Modifier.isPrivate(method.getModifiers())) {
                have.add(written(method));
                Check.report(method.getModifiers() == Modifier.PUBLIC, "not just public: " + method);
            }
        }
        Check.report(due.size() == 39, "39 methods are in the document's face, not " + due.size());
        Check.report(have.equals(due), "the face is " + have + ", due is " + due);
        Check.report(BreadCity.class.getConstructors().length == 1, "one public constructor");
        Check.report(BreadCity.class.getDeclaredConstructors().length == 1, "one constructor");
        Check.report(BreadCity.class.getModifiers() == (Modifier.PUBLIC | Modifier.FINAL), "public and final");
    }

    private static String written(Method method) {
        List<String> types = new ArrayList<>();
        for (Class<?> type : method.getParameterTypes()) types.add(type.getSimpleName());
        List<String> thrown = new ArrayList<>();
        for (Class<?> type : method.getExceptionTypes()) thrown.add(type.getSimpleName());
        return method.getReturnType() + " " + method.getName() + "(" + String.join(", ", types) + ")"
            + (thrown.isEmpty() ? "" : " throws " + String.join(", ", thrown));
    }

    private static void members() {
        Set<String> faces = new HashSet<>();
        for (Method method : BreadCity.class.getMethods()) faces.add(method.getName());
        List<Class<?>> all = new ArrayList<>(List.of(BreadCity.class.getDeclaredClasses()));
        for (Class<?> type : all) {
            Check.report(Modifier.isStatic(type.getModifiers()), type + " is static");
            Check.report(!Modifier.isPublic(type.getModifiers()) && !Modifier.isProtected(type.getModifiers()),
                type + " is private or package-visible");
            for (Method method : type.getDeclaredMethods()) {
                Check.report(!faces.contains(method.getName()), method + " bears a name of the face");
            }
        }
        all.add(BreadCity.class);
        Check.report(all.size() <= 12, all.size() + " classes");
        for (Class<?> type : all) {
            fields(type);
            for (Method method : type.getDeclaredMethods()) {
                Check.report(method.getParameterCount() <= 7, method + " takes more than seven");
                Check.report(!Modifier.isPrivate(method.getModifiers()) || !faces.contains(method.getName()),
                    method + " bears a name of the face");
            }
        }
    }

    private static void fields(Class<?> type) {
        int own = 0;
        for (Field field : type.getDeclaredFields()) {
            boolean still = Modifier.isStatic(field.getModifiers());
            own += still ? 0 : 1;
            Check.report(!still || Modifier.isFinal(field.getModifiers()), field + " is static and not final");
            boolean hidden = type != BreadCity.class || Modifier.isPrivate(field.getModifiers());
            Check.report(hidden || field.getName().equals("NONE"), field + " can be seen");
        }
        Check.report(own <= 20, type + " has " + own + " fields");
    }

    /** The source without what stands in comments, texts and signs. */
    private static String bare(String source) {
        Check.report(source.chars().allMatch(sign -> sign < 127), "the source has a sign above 126");
        return source.replaceAll("(?s)/\\*.*?\\*/", "").replaceAll("//[^\n]*", "")
            .replaceAll("\"[^\"\n]*\"", "\"\"").replaceAll("'[^'\n]+'", "''");
    }

    private static void words(String bare) {
        String[] none = {"->", "::", "\\btry\\b", "\\bcatch\\b", "\\bfinally\\b", "\\bsynchronized\\b", "\\bassert\\b",
            "\\bpackage\\b", "Exact\\(", "\\bdouble\\b", "\\bfloat\\b", "\\bvar\\b", "\\bprotected\\b", "@", "\\bnative\\b",
            "System\\.(?!arraycopy)", "\\bstatic\\s*\\{", "\\[\\]\\[\\]\\[\\]", "\\b\\w+\\.\\.\\.", "\\byield\\b", "\\bRandom\\b",
            "Integer\\.(?!bitCount\\()", "Math\\.(?!(abs|max|min)\\()", "\\bLong\\.",
            "\\bobject\\b", "\\bObject\\b", "\\binstanceof\\b", "while \\(true", "for \\(;;"};
        for (String pattern : none) {
            Check.report(!Pattern.compile(pattern).matcher(bare).find(), "the source has " + pattern);
        }
        Matcher imports = Pattern.compile("import ([\\w.]+);").matcher(bare);
        while (imports.find()) {
            Check.report(imports.group(1).equals("java.util.NoSuchElementException"), "imports " + imports.group(1));
        }
        Matcher thrown = Pattern.compile("throw ([^;]*);").matcher(bare);
        while (thrown.find()) {
            Check.report(thrown.group(1).matches("new (IllegalArgument|NoSuchElement)Exception\\(\"\"\\)"), thrown.group());
        }
        int from = -1;
        String[] lines = bare.split("\n", -1);
        for (int i = 0; i < lines.length; i++) {
            if (lines[i].matches("^ {4}( {4})?(private|public|static|int|long|void|boolean)\\b.*\\{$")
                    && !lines[i].contains(" class ")) {
                from = i;
            }
            if (lines[i].matches("^ {4}( {4})?\\}$") && from >= 0) {
                Check.report(i - from <= 60, "a method of " + (i - from) + " lines: " + lines[from]);
                from = -1;
            }
        }
    }
}
