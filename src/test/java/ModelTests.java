import java.lang.reflect.InvocationTargetException;
import java.lang.reflect.Method;
import java.util.ArrayList;
import java.util.List;
import java.util.Random;

/** Random runs of calls, by fixed seeds, on the class and on the plain model: every answer must be alike. */
public final class ModelTests {
    private static final List<Method> FACE = new ArrayList<>();
    private static final List<Method> PLAIN = new ArrayList<>();
    private static final String LETTERS = " ;[](),+-*/%0123456789abcdefghijklmnopqrstuvwxyz\u0000\u00ff";

    private final Random random;
    private final BreadCity city = new BreadCity();
    private final Model model = new Model();
    private final StringBuilder log = new StringBuilder();
    private int calls;
    private int wrong;

    private ModelTests(long seed) { random = new Random(seed); }

    public static void main(String[] args) throws ReflectiveOperationException {
        for (Method m : BreadCity.class.getDeclaredMethods()) {
            if (java.lang.reflect.Modifier.isPublic(m.getModifiers())) {
                FACE.add(m);
            }
        }
        FACE.sort((a, b) -> a.getName().compareTo(b.getName()));
        for (Method m : FACE) {
            Method plain = Model.class.getDeclaredMethod(m.getName(), m.getParameterTypes());
            plain.setAccessible(true);
            PLAIN.add(plain);
        }
        int runs = args.length > 0 ? Integer.parseInt(args[0]) : 1500;
        int calls = 0;
        for (int seed = 0; seed < runs; seed++) {
            ModelTests t = new ModelTests(seed);
            t.run();
            calls += t.calls;
            if (t.wrong > 0) {
                System.out.println("run of seed " + seed + ":\n" + t.log);
                System.exit(1);
            }
        }
        System.out.println(runs + " runs of " + calls + " calls are as the model's");
    }

    private int upTo(int most) { return random.nextInt(most + 1); }

    private void run() throws ReflectiveOperationException {
        if (random.nextInt(10) > 0) {
            text("bog", bogText());
        }
        int many = 40 + upTo(80);
        while (calls < many && wrong == 0) {
            int kind = random.nextInt(20);
            if (kind == 0 && random.nextInt(4) == 0) text("bog", random.nextInt(5) == 0 ? "" : bogText());
            else if (kind <= 1) text("law", lawText(3));
            else if (kind <= 4) text("work", workText());
            else if (kind == 5) text("book", bookText());
            else if (kind == 6) past();
            else if (kind <= 8) far();
            else ask();
        }
    }

    private void ask() throws ReflectiveOperationException {
        int i = random.nextInt(FACE.size());
        String name = FACE.get(i).getName();
        int most = mostOf(name);
        Object[] args = new Object[FACE.get(i).getParameterCount()];
        for (int k = 0; k < args.length; k++) {
            args[k] = random.nextInt(25) == 0 ? random.nextInt(6) - 2
                : random.nextInt(60) == 0 ? random.nextInt() : upTo(random.nextInt(3) == 0 ? most : Math.min(most, 7));
        }
        if ((name.equals("season") || name.equals("span")) && random.nextBoolean()) args[0] = random.nextInt();
        if (name.equals("feed") && random.nextInt(3) > 0) return;
        call(i, args);
    }

    /** Going back and forth: without this, undo() and restore() seldom meet a past of some depth. */
    private void past() throws ReflectiveOperationException {
        String[] names = {"undo", "undo", "image", "restore"};
        for (int i = random.nextInt(4); i >= 0; i--) {
            call(index(names[random.nextInt(4)]), new Object[0]);
        }
    }

    /** What reckons with sets of ovens, asked of moorings and hours that there are. */
    private void far() throws ReflectiveOperationException {
        int moorings = model.told(3);
        for (int m = 0; m < moorings && m < 3; m++) {
            call(index("pilot"), new Object[] {random.nextInt(moorings), upTo(12)});
        }
        call(index("fits"), new Object[] {random.nextInt(3)});
        call(index("look"), new Object[] {random.nextInt(2)});
        call(index("span"), new Object[] {random.nextInt(), 1 + upTo(5), upTo(16), 1 + upTo(9), random.nextInt(3)});
    }

    private static int mostOf(String name) {
        switch (name) {
            case "would": return 80;
            case "ahead": return 100;
            case "reed": return 31;
            case "gusts": return 16;
            case "season": return 97;
            case "span": return 21;
            case "sacks": return 64;
            case "bakers": return 12;
            case "told": return 12;
            case "pilot": return 12;
            default: return 7;
        }
    }

    private void text(String name, String text) throws ReflectiveOperationException {
        String t = random.nextInt(6) == 0 ? broken(text) : text;
        if (t.length() > 600) t = t.substring(0, 600);
        byte[] bytes = t.getBytes(java.nio.charset.StandardCharsets.ISO_8859_1);
        log.append("  text <").append(t).append(">\n");
        for (int at = 0; at < bytes.length; at += 20) {
            Object[] five = new Object[5];
            for (int k = 0; k < 5; k++) {
                int v = 0;
                for (int b = 0; b < 4; b++) {
                    int place = at + 4 * k + b;
                    v = v << 8 | (place < bytes.length ? bytes[place] & 255 : random.nextInt(256));
                }
                five[k] = v;
            }
            call(index("feed"), five);
        }
        call(index(name), new Object[] {random.nextInt(30) == 0 ? bytes.length + random.nextInt(40) - 20 : bytes.length});
        call(index("fault"), new Object[0]);
    }

    private String broken(String text) {
        StringBuilder s = new StringBuilder(text);
        for (int i = random.nextInt(2); i >= 0; i--) {
            char c = LETTERS.charAt(random.nextInt(LETTERS.length()));
            int place = upTo(s.length());
            switch (random.nextInt(4)) {
                case 0: s.insert(place, c); break;
                case 1: if (place < s.length()) s.setCharAt(place, c); break;
                case 2: if (place < s.length()) s.deleteCharAt(place); break;
                default: s.setLength(place); break;
            }
        }
        return s.toString();
    }

    private static int index(String name) {
        for (int i = 0; i < FACE.size(); i++) if (FACE.get(i).getName().equals(name)) return i;
        throw new IllegalStateException(name);
    }

    private void call(int i, Object[] args) throws ReflectiveOperationException {
        String got = answer(FACE.get(i), city, args);
        String due = answer(PLAIN.get(i), model, args);
        calls++;
        log.append("  ").append(FACE.get(i).getName()).append(java.util.Arrays.toString(args)).append(" -> ").append(got);
        if (!got.equals(due)) {
            wrong++;
            log.append(", due is ").append(due);
        }
        log.append('\n');
    }

    private static String answer(Method m, Object on, Object[] args) throws ReflectiveOperationException {
        try {
            return String.valueOf(m.invoke(on, args));
        } catch (InvocationTargetException e) {
            return e.getCause().getClass().getName();
        }
    }

    // ---- texts ----

    private String gap() { return random.nextInt(12) == 0 ? " ".repeat(upTo(3)) : ""; }

    private String number(int least, int most) {
        String zeros = random.nextInt(40) == 0 ? "00" : "";
        if (random.nextInt(150) == 0) return " " + zeros + (most + 1);
        return " " + zeros + (least + random.nextInt(most - least + 1));
    }

    private String bogText() {
        StringBuilder s = new StringBuilder();
        int near = 1 + random.nextInt(4);
        int quarters = upTo(6);
        for (int i = 0; i < quarters; i++) {
            s.append(gap()).append("quarter").append(number(0, 3)).append(number(1, 99)).append(gap()).append(";");
        }
        for (int i = upTo(quarters == 0 ? 0 : 8); i > 0; i--) {
            s.append("oven").append(number(0, quarters - 1)).append(number(1, 9)).append(gap()).append(";");
        }
        for (int i = upTo(12); i > 0; i--) {
            s.append("reed").append(number(15 - 2 * near, 15 + 2 * near)).append(number(15 - 2 * near, 15 + 2 * near));
            s.append(";");
        }
        for (int i = upTo(6); i > 0; i--) {
            s.append("mooring").append(number(15 - near, 15 + near)).append(number(15 - near, 15 + near)).append(";");
        }
        if (random.nextInt(3) == 0) s.append("mooring").append(number(0, 30)).append(number(0, 30)).append(";");
        if (random.nextInt(4) == 0) s.append("city").append(number(0, 30)).append(number(0, 30)).append(";");
        if (random.nextBoolean()) s.append("flour").append(number(0, random.nextBoolean() ? 5 : 99)).append(";");
        for (int i = random.nextInt(15) == 0 ? 45 : 0; i > 0; i--) s.append("flour 7;");
        return s.append(gap()).toString();
    }

    private String lawText(int deep) {
        if (random.nextInt(30) == 0) {
            int open = 5 + random.nextInt(3);
            return "(".repeat(open) + "bread" + ")".repeat(open);
        }
        for (int i = 0; i < 50; i++) {
            String s = sum(deep) + gap();
            if (s.length() <= 150) return s;
        }
        return "lit * 12 - others + side";
    }

    private String sum(int deep) {
        StringBuilder s = new StringBuilder(product(deep));
        for (int i = random.nextInt(3); i > 0; i--) s.append(gap()).append("+-".charAt(random.nextInt(2))).append(product(deep));
        return s.toString();
    }

    private String product(int deep) {
        StringBuilder s = new StringBuilder(unit(deep));
        for (int i = random.nextInt(3); i > 0; i--) s.append(gap()).append("**/%".charAt(random.nextInt(4))).append(unit(deep));
        return s.toString();
    }

    private String unit(int deep) {
        String[] words = {"bread", "noses", "lit", "others", "onions", "side", "hour"};
        int kind = random.nextInt(deep > 0 ? 12 : 9);
        if (kind < 2) return number(0, random.nextBoolean() ? 12 : 999);
        if (kind < 9) return gap() + words[random.nextInt(7)];
        if (kind == 9) return "(" + sum(deep - 1) + gap() + ")";
        return (kind == 10 ? "least" : "most") + gap() + "[" + sum(deep - 1) + "," + sum(deep - 1) + gap() + "]";
    }

    private String workText() {
        if (random.nextInt(12) == 0) return "again 30[again 30[hour;];];";
        if (random.nextInt(40) == 0) return "again 1[".repeat(7) + "];".repeat(7);
        StringBuilder s = new StringBuilder();
        int quarters = Math.max(1, model.told(0));
        int ovens = Math.max(1, model.told(1));
        for (int i = upTo(12); i > 0; i--) {
            String step = step(quarters, ovens, 2);
            if (s.length() + step.length() <= 150) s.append(step);
        }
        return s.toString();
    }

    private String step(int quarters, int ovens, int deep) {
        int kind = random.nextInt(deep > 0 ? 11 : 10);
        if (kind < 4) return "light" + number(0, ovens - 1) + gap() + ";";
        if (kind < 5) return "quench" + number(0, ovens - 1) + ";";
        if (kind < 6) return "onions" + number(0, quarters - 1) + number(0, random.nextBoolean() ? 2 : 99) + ";";
        if (kind < 7) return "cold" + number(0, quarters - 1) + ";";
        if (kind < 10) return gap() + "hour;";
        StringBuilder s = new StringBuilder("again").append(number(0, random.nextInt(3) == 0 ? 30 : 4)).append("[");
        for (int i = upTo(3); i > 0; i--) s.append(step(quarters, ovens, deep - 1));
        return s.append(gap()).append("];").toString();
    }

    private String bookText() {
        StringBuilder s = new StringBuilder();
        int lines = random.nextInt(20) == 0 ? 7 : random.nextInt(3);
        int hour = 0;
        for (int i = 0; i < lines; i++) {
            hour = lines == 7 ? i + 1 : 1 + random.nextInt(12);
            int set = random.nextInt(4);
            int x = set == 0 ? upTo(30) : model.ahead(hour, 0);
            int y = set == 0 ? upTo(30) : model.ahead(hour, 1);
            s.append(hour).append(' ').append(x).append(' ').append(y).append(gap()).append(';');
        }
        return s.toString();
    }
}
