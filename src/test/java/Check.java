import java.io.IOException;
import java.nio.charset.StandardCharsets;
import java.nio.file.Files;
import java.nio.file.Path;
import java.nio.file.StandardOpenOption;
import java.util.LinkedHashSet;
import java.util.NoSuchElementException;
import java.util.Set;

/** What the tests share: telling texts to a city, and counting what is not as due. */
final class Check {
    interface Call {
        long answer();
    }

    private static final Path DOCUMENT = Path.of("../shared/DOC.md");

    private static final Set<String> SENTENCES = new LinkedHashSet<>();

    private static int passed;
    private static int failed;
    private static String document;
    private static String sentence = "";

    private Check() { }

    /** What follows tests these words of the document: they must stand there, and every complaint names them. */
    static void sentence(String words) {
        sentence = "";
        report(document().contains(words), "the document does not say: " + words);
        sentence = "\"" + words + "\": ";
        SENTENCES.add(words);
    }

    /** The document, with one blank for all that is blank. */
    static String document() {
        try {
            document = document == null ? Files.readString(DOCUMENT).replaceAll("\\s+", " ") : document;
        } catch (IOException e) {
            document = "";
        }
        return document;
    }

    /** The file in which the tests of one run of .ci/run write down the sentences that they tested; null without. */
    static Path ledger() {
        String name = System.getProperty("ledger");
        return name == null ? null : Path.of(name);
    }

    private static void writeDown() {
        if (ledger() == null) {
            return;
        }
        try {
            Files.write(ledger(), SENTENCES, StandardOpenOption.CREATE, StandardOpenOption.APPEND);
        } catch (IOException e) {
            report(false, "the ledger can't be written: " + e);
        }
    }

    static void is(String what, long got, long due) {
        report(got == due, what + " answered " + got + ", due is " + due);
    }

    static void missing(String what, Call call) {
        report(NoSuchElementException.class == thrownBy(call), what + " did not throw NoSuchElementException");
    }

    static void unfit(String what, Call call) {
        report(IllegalArgumentException.class == thrownBy(call), what + " did not throw IllegalArgumentException");
    }

    static void report(boolean fine, String complaint) {
        if (fine) {
            passed++;
        } else {
            failed++;
            System.out.println(sentence + complaint);
        }
    }

    static void end(String name) {
        sentence = "";
        writeDown();
        System.out.println(name + ": " + passed + " answers as due, " + failed + " not");
        System.exit(failed == 0 && passed > 0 ? 0 : 1);
    }

    static Class<?> thrownBy(Call call) {
        try {
            call.answer();
            return null;
        } catch (RuntimeException e) {
            return e.getClass();
        }
    }

    /** Feeds a text, filled up to twenties by signs that no text may hold: its length. */
    static int tell(BreadCity city, String text) {
        byte[] bytes = text.getBytes(StandardCharsets.ISO_8859_1);
        for (int at = 0; at < bytes.length; at += 20) {
            int[] five = new int[5];
            for (int i = 0; i < 20; i++) {
                int sign = at + i < bytes.length ? bytes[at + i] & 255 : '#';
                five[i / 4] = five[i / 4] << 8 | sign;
            }
            city.feed(five[0], five[1], five[2], five[3], five[4]);
        }
        return bytes.length;
    }

    static int bog(BreadCity city, String text) { return city.bog(tell(city, text)); }

    static int law(BreadCity city, String text) { return city.law(tell(city, text)); }

    static int work(BreadCity city, String text) { return city.work(tell(city, text)); }

    static int book(BreadCity city, String text) { return city.book(tell(city, text)); }

    static BreadCity cityOf(String bog) {
        BreadCity city = new BreadCity();
        if (bog(city, bog) < 0) {
            report(false, "no sound bog: " + bog);
        }
        return city;
    }
}
