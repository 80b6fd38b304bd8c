import java.io.IOException;
import java.nio.file.Files;
import java.util.List;
import java.util.regex.Matcher;
import java.util.regex.Pattern;

/** Run behind the tests: every word under "Terms" and under each promise was named by a test, as Check.sentence tells. */
public final class Ledger {
    /** What is no sentence: headings, the promises' signatures, the marks of a block. */
    private static final Pattern FRAME = Pattern.compile("## Terms|## Promise \\d+: [^`]*|`[^`]*`:|```(text)?|==== \\d\\.");

    public static void main(String[] args) throws IOException {
        String document = Check.document();
        int from = document.indexOf("## Terms");
        int to = document.indexOf("## Not promised");
        Check.report(from >= 0 && to > from, "the document has its parts");
        Check.report(Check.ledger() != null, "-Dledger names the file that the tests wrote");
        boolean[] named = new boolean[document.length()];
        for (String words : Check.ledger() == null ? List.<String>of() : Files.readAllLines(Check.ledger())) {
            for (int at = document.indexOf(words); at >= 0; at = document.indexOf(words, at + 1)) {
                mark(named, at, at + words.length());
            }
        }
        Matcher frame = FRAME.matcher(document);
        while (frame.find()) {
            mark(named, frame.start(), frame.end());
        }
        StringBuilder left = new StringBuilder();
        for (int i = Math.max(from, 0); i < to; i++) {
            left.append(named[i] ? '\n' : document.charAt(i));
        }
        for (String part : left.toString().split("\n+")) {
            Check.report(!part.matches(".*[A-Za-z0-9].*"), "no test names: " + part);
        }
        Check.end("Ledger");
    }

    private static void mark(boolean[] named, int from, int to) {
        for (int i = from; i < to; i++) {
            named[i] = true;
        }
    }
}
