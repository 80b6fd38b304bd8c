import java.io.IOException;
import java.util.ArrayList;
import java.util.List;
import java.util.Map;
import java.util.Set;
import java.util.TreeMap;
import java.util.TreeSet;

/** What of LANGUAGE.md can be seen in the compiled class alone: no rule is kept by how a line happens to be written. */
public final class BytecodeTests {
    /** Rule 4: all of the library that the class needs; each stands in the rule's list. */
    private static final Set<String> LIBRARY = Set.of("java.lang.Object.<init>", "java.lang.String.length",
        "java.lang.String.charAt", "java.lang.Math.min", "java.lang.Math.max", "java.lang.Math.abs",
        "java.lang.Integer.bitCount", "java.lang.System.arraycopy",
        "java.lang.IllegalArgumentException.<init>", "java.util.NoSuchElementException.<init>");
    /** Rule 6: where the two exceptions are made and thrown. */
    private static final Set<String> THROWERS = Set.of("BreadCity.needWithin", "BreadCity.needThere");
    /** Rule 8: what may call itself, each with an argument that tells how many are open. */
    private static final Set<String> RECURSIVE = Set.of("BreadCity$Law.readSum", "BreadCity$Law.readProduct",
        "BreadCity$Law.readUnit", "BreadCity$Law.readPair", "BreadCity$Plan.readSteps", "BreadCity$Plan.readStep",
        "BreadCity$Plan.readAgain", "BreadCity$Plan.run");
    /** Rule 7: where a divisor is no constant, and is tested ahead of that. */
    private static final Set<String> DIVIDERS = Set.of("BreadCity.ways", "BreadCity$Law.join", "BreadCity$City.draw");
    private static final int DEEPEST = 8;

    private static final Map<String, ClassFile.Method> METHODS = new TreeMap<>();

    public static void main(String[] args) throws IOException {
        List<Class<?>> types = new ArrayList<>(List.of(BreadCity.class.getDeclaredClasses()));
        types.add(BreadCity.class);
        for (Class<?> type : types) {
            for (ClassFile.Method method : new ClassFile(type).methods) {
                Check.report(METHODS.put(method.name(), method) == null, method.name() + " is there twice");
            }
        }
        Check.report(METHODS.containsKey("BreadCity.pilot"), "the class was read");
        Set<String> used = new TreeSet<>();
        for (ClassFile.Method method : METHODS.values()) {
            orders(method, used);
        }
        Check.report(used.equals(new TreeSet<>(LIBRARY)), "of the library there is " + used);
        recursion();
        depth();
        Check.end("BytecodeTests");
    }

    private static void orders(ClassFile.Method method, Set<String> used) {
        Check.is(method.name() + ", catches", method.catches(), 0);
        ClassFile.Order before = null;
        for (ClassFile.Order order : method.orders()) {
            String where = method.name() + " at " + order.at() + ": ";
            switch (order.code()) {
                case 182: case 183: case 184: case 185:
                    if (!order.what().startsWith("BreadCity")) used.add(order.what());
                    break;
                case 186: Check.report(false, where + "a lambda, or texts joined by +"); break;
                case 187: made(method, where, order.what()); break;
                case 188: case 189: case 197:
                    Check.report(method.name().endsWith(".<init>"), where + "an array is made by a call");
                    break;
                case 178: case 179: Check.report(false, where + "a static field that is no constant: " + order.what()); break;
                case 191: Check.report(THROWERS.contains(method.name()), where + "a throw"); break;
                case 192: case 193: Check.report(false, where + "a cast or an instanceof"); break;
                case 194: case 195: Check.report(false, where + "synchronized"); break;
                case 108: case 109: case 112: case 113:
                    Check.report(before != null && isConstant(before.code()) || DIVIDERS.contains(method.name()),
                        where + "a divisor that may be 0");
                    break;
                default: break;
            }
            before = order;
        }
        Check.report(!method.name().endsWith(".<clinit>"), method.name());
    }

    private static void made(ClassFile.Method method, String where, String what) {
        boolean thrown = what.endsWith("Exception") && THROWERS.contains(method.name());
        boolean part = what.startsWith("BreadCity$") && method.name().equals("BreadCity.<init>");
        Check.report(thrown || part, where + what + " is made by a call");
    }

    /** No division by the constant 0 compiles without a warning, so a constant is enough. */
    private static boolean isConstant(int code) {
        return code >= 2 && code <= 20;
    }

    private static Set<String> calledBy(String name) {
        Set<String> called = new TreeSet<>();
        for (ClassFile.Order order : METHODS.containsKey(name) ? METHODS.get(name).orders() : List.<ClassFile.Order>of()) {
            if (order.code() >= 182 && order.code() <= 185) called.add(order.what());
        }
        return called;
    }

    private static void recursion() {
        Set<String> found = new TreeSet<>();
        for (String name : METHODS.keySet()) {
            Set<String> reached = new TreeSet<>();
            List<String> open = new ArrayList<>(calledBy(name));
            while (!open.isEmpty()) {
                String next = open.remove(open.size() - 1);
                if (reached.add(next)) open.addAll(calledBy(next));
            }
            if (reached.contains(name)) found.add(name);
        }
        Check.report(found.equals(new TreeSet<>(RECURSIVE)), "what calls itself is " + found);
    }

    private static void depth() {
        for (String name : METHODS.keySet()) {
            List<String> deepest = deepest(new ArrayList<>(List.of(name)));
            Check.report(deepest.size() <= DEEPEST, "calls go " + deepest.size() + " deep: " + deepest);
        }
    }

    private static List<String> deepest(List<String> path) {
        List<String> most = new ArrayList<>(path);
        for (String next : calledBy(path.get(path.size() - 1))) {
            if (!path.contains(next)) {
                path.add(next);
                List<String> deeper = deepest(path);
                path.remove(path.size() - 1);
                most = deeper.size() > most.size() ? deeper : most;
            }
        }
        return most;
    }
}
