import java.util.ArrayList;
import java.util.HashMap;
import java.util.HashSet;
import java.util.List;
import java.util.Map;
import java.util.NoSuchElementException;
import java.util.Set;
import java.util.function.ToIntFunction;
import java.util.regex.Matcher;
import java.util.regex.Pattern;

/** The document once more, written as plainly as can be, with no thought of speed: the class is held against it. */
final class Model {
    private record Token(String text, int at) {
        boolean number() { return text.matches("[0-9]+"); }
    }

    private static final class Fault extends RuntimeException {
        private static final long serialVersionUID = 1;
        final int kind;
        final int place;
        Fault(int kind, int place) { super(null, null, false, false); this.kind = kind; this.place = place; }
    }

    private record Oven(int quarter, int strong) { }
    private record Quarter(int side, int noses) { }
    private record Cell(int x, int y) { }
    private record Facts(int bread, int noses, int lit, int others, int onions, int side, int hour) { }
    private record Step(String word, int a, int b, List<Step> inner) { }

    private static final class Bog {
        final List<Quarter> quarters = new ArrayList<>();
        final List<Oven> ovens = new ArrayList<>();
        final List<Cell> reeds = new ArrayList<>();
        final List<Cell> moorings = new ArrayList<>();
        Cell city = new Cell(15, 15);
        int flour = 9;
    }

    private static final class State {
        int x, y, hour, flour, aground;
        int[] left = new int[8], times = new int[8], onions = new int[6];
        boolean[] cold = new boolean[6];
        State copy() {
            State s = new State();
            s.x = x; s.y = y; s.hour = hour; s.flour = flour; s.aground = aground;
            s.left = left.clone(); s.times = times.clone(); s.onions = onions.clone(); s.cold = cold.clone();
            return s;
        }
    }

    private record Image(State state, List<State> works) { }

    private byte[] tape = new byte[0];
    private int faultPlace = -1;
    private Bog bog = new Bog();
    private ToIntFunction<Facts> law = Model::firstLaw;
    private Map<Integer, Cell> book = new HashMap<>();
    private State now = fresh(bog);
    private List<State> works = new ArrayList<>();
    private final List<Image> images = new ArrayList<>();
    private int refused;
    private int missing;
    private int unfit;

    private static int firstLaw(Facts f) { return f.bread * f.noses / 10 - f.onions; }

    private static State fresh(Bog bog) {
        State s = new State();
        s.x = bog.city.x; s.y = bog.city.y; s.flour = bog.flour;
        return s;
    }

    // ---- texts ----

    int feed(int a, int b, int c, int d, int e) {
        if (tape.length + 20 > 600) return -1;
        java.nio.ByteBuffer more = java.nio.ByteBuffer.allocate(tape.length + 20);
        more.put(tape).putInt(a).putInt(b).putInt(c).putInt(d).putInt(e);
        tape = more.array();
        return tape.length;
    }

    private final class Reader {
        final List<Token> tokens = new ArrayList<>();
        final int length;
        int i;
        Reader(int n) {
            String s = new String(tape, 0, n, java.nio.charset.StandardCharsets.ISO_8859_1);
            length = n;
            Matcher m = Pattern.compile("[0-9]+|[a-z]+|[^ ]", Pattern.DOTALL).matcher(s);
            while (m.find()) tokens.add(new Token(m.group(), m.start()));
        }
        boolean over() { return i >= tokens.size(); }
        Token peek() { return over() ? new Token("", length) : tokens.get(i); }
        boolean is(String t) { return peek().text.equals(t); }
        Fault cannot() { return new Fault(1, peek().at); }
        void need(String t) { if (!is(t)) throw cannot(); i++; }
        int number(int least, int most) {
            Token t = peek();
            if (!t.number()) throw cannot();
            java.math.BigInteger v = new java.math.BigInteger(t.text);
            if (v.compareTo(java.math.BigInteger.valueOf(least)) < 0
                    || v.compareTo(java.math.BigInteger.valueOf(most)) > 0) throw new Fault(2, t.at);
            i++;
            return v.intValue();
        }
    }

    private interface Work<T> { T of(Reader r); }

    private int read(int n, int most, Work<Integer> body) {
        if (n < 0 || n > tape.length || n > most) throw unfit();
        Reader r = new Reader(n);
        tape = new byte[0];
        faultPlace = -1;
        try {
            return body.of(r);
        } catch (Fault f) {
            faultPlace = f.place;
            return f.kind - 10;
        }
    }

    int bog(int n) {
        return read(n, 600, r -> {
            Bog b = new Bog();
            int clauses = 0;
            while (!r.over()) {
                Token w = r.peek();
                if (!Set.of("quarter", "oven", "reed", "mooring", "city", "flour").contains(w.text)) throw r.cannot();
                if (++clauses > 60) throw new Fault(3, w.at);
                r.i++;
                switch (w.text) {
                    case "quarter" -> {
                        if (b.quarters.size() == 6) throw new Fault(3, w.at);
                        int d = r.number(0, 3);
                        b.quarters.add(new Quarter(d, r.number(1, 99)));
                    }
                    case "oven" -> {
                        if (b.ovens.size() == 8) throw new Fault(3, w.at);
                        int q = r.number(0, b.quarters.size() - 1);
                        b.ovens.add(new Oven(q, r.number(1, 9)));
                    }
                    case "reed" -> {
                        if (b.reeds.size() == 12) throw new Fault(3, w.at);
                        b.reeds.add(cell(r));
                    }
                    case "mooring" -> {
                        if (b.moorings.size() == 6) throw new Fault(3, w.at);
                        b.moorings.add(cell(r));
                    }
                    case "city" -> b.city = cell(r);
                    default -> b.flour = r.number(0, 99);
                }
                r.need(";");
            }
            bog = b;
            law = Model::firstLaw;
            book = new HashMap<>();
            now = fresh(b);
            works.clear();
            images.clear();
            refused = 0;
            return b.ovens.size();
        });
    }

    private static Cell cell(Reader r) {
        int x = r.number(0, 30);
        return new Cell(x, r.number(0, 30));
    }

    int law(int n) {
        return read(n, 150, r -> {
            ToIntFunction<Facts> e = sum(r, 0);
            if (!r.over()) throw r.cannot();
            law = e;
            return 1;
        });
    }

    private ToIntFunction<Facts> sum(Reader r, int open) {
        ToIntFunction<Facts> e = product(r, open);
        while (r.is("+") || r.is("-")) {
            boolean plus = r.is("+");
            r.i++;
            ToIntFunction<Facts> a = e;
            ToIntFunction<Facts> b = product(r, open);
            e = f -> plus ? a.applyAsInt(f) + b.applyAsInt(f) : a.applyAsInt(f) - b.applyAsInt(f);
        }
        return e;
    }

    private ToIntFunction<Facts> product(Reader r, int open) {
        ToIntFunction<Facts> e = unit(r, open);
        while (r.is("*") || r.is("/") || r.is("%")) {
            String sign = r.peek().text;
            r.i++;
            ToIntFunction<Facts> a = e;
            ToIntFunction<Facts> b = unit(r, open);
            e = f -> {
                int x = a.applyAsInt(f);
                int y = b.applyAsInt(f);
                if (sign.equals("*")) return x * y;
                if (y == 0) return 0;
                return sign.equals("/") ? x / y : x % y;
            };
        }
        return e;
    }

    private ToIntFunction<Facts> unit(Reader r, int open) {
        Token t = r.peek();
        if (t.number()) {
            int v = r.number(0, 999);
            return f -> v;
        }
        switch (t.text) {
            case "bread": r.i++; return Facts::bread;
            case "noses": r.i++; return Facts::noses;
            case "lit": r.i++; return Facts::lit;
            case "others": r.i++; return Facts::others;
            case "onions": r.i++; return Facts::onions;
            case "side": r.i++; return Facts::side;
            case "hour": r.i++; return Facts::hour;
            default: break;
        }
        if (!Set.of("(", "least", "most").contains(t.text)) throw r.cannot();
        if (open == 6) throw new Fault(3, t.at);
        r.i++;
        if (t.text.equals("(")) {
            ToIntFunction<Facts> e = sum(r, open + 1);
            r.need(")");
            return e;
        }
        r.need("[");
        ToIntFunction<Facts> a = sum(r, open + 1);
        r.need(",");
        ToIntFunction<Facts> b = sum(r, open + 1);
        r.need("]");
        boolean least = t.text.equals("least");
        return f -> least ? Math.min(a.applyAsInt(f), b.applyAsInt(f)) : Math.max(a.applyAsInt(f), b.applyAsInt(f));
    }

    int work(int n) {
        if (n < 0 || n > tape.length || n > 150) throw unfit();
        if (works.size() == 16) {
            tape = new byte[0];
            faultPlace = -1;
            return -20;
        }
        return read(n, 150, r -> {
            List<Step> steps = stepList(r, 0);
            works.add(now.copy());
            int[] counts = new int[3];
            run(steps, counts);
            refused = counts[2];
            return counts[1];
        });
    }

    private List<Step> stepList(Reader r, int open) {
        List<Step> all = new ArrayList<>();
        while (open == 0 ? !r.over() : !r.is("]")) {
            Token w = r.peek();
            if (!Set.of("light", "quench", "onions", "cold", "hour", "again").contains(w.text)) throw r.cannot();
            if (w.text.equals("again") && open == 6) throw new Fault(3, w.at);
            r.i++;
            int a = 0;
            int b = 0;
            List<Step> inner = List.of();
            if (w.text.equals("light") || w.text.equals("quench")) a = r.number(0, bog.ovens.size() - 1);
            if (w.text.equals("onions") || w.text.equals("cold")) a = r.number(0, bog.quarters.size() - 1);
            if (w.text.equals("onions")) b = r.number(0, 99);
            if (w.text.equals("again")) {
                a = r.number(0, 30);
                r.need("[");
                inner = stepList(r, open + 1);
                r.need("]");
            }
            r.need(";");
            all.add(new Step(w.text, a, b, inner));
        }
        return all;
    }

    /** Counts: begun, done, refused. */
    private void run(List<Step> steps, int[] counts) {
        for (Step s : steps) {
            if (counts[0] == 200) return;
            counts[0]++;
            if (s.word.equals("again")) {
                for (int i = 0; i < s.a; i++) run(s.inner, counts);
            } else if (does(s)) {
                counts[1]++;
            } else {
                counts[2]++;
            }
        }
    }

    private boolean does(Step s) {
        switch (s.word) {
            case "light": return light(now, s.a);
            case "quench":
                if (now.left[s.a] == 0) return false;
                now.left[s.a] = 0;
                return true;
            case "onions":
                if (now.onions[s.a] == s.b) return false;
                now.onions[s.a] = s.b;
                return true;
            case "cold":
                now.cold[s.a] = !now.cold[s.a];
                return true;
            default:
                if (now.hour >= 900) return false;
                hour(now);
                return true;
        }
    }

    private static boolean light(State s, int o) {
        if (s.left[o] > 0 || s.flour == 0) return false;
        s.left[o] = 4;
        s.times[o]++;
        s.flour--;
        return true;
    }

    int book(int n) {
        return read(n, 60, r -> {
            Map<Integer, Cell> b = new HashMap<>();
            while (!r.over()) {
                int at = r.peek().at;
                int h = r.number(1, 12);
                if (b.containsKey(h)) throw new Fault(2, at);
                if (b.size() == 6) throw new Fault(3, at);
                b.put(h, cell(r));
                r.need(";");
            }
            book = b;
            return b.size();
        });
    }

    int fault() { return faultPlace; }

    int undo() {
        if (works.isEmpty()) return -1;
        now = works.remove(works.size() - 1);
        refused = 0;
        return works.size();
    }

    // ---- how the city goes ----

    private int bread(State s, int q) {
        int sum = 0;
        for (int o = 0; o < bog.ovens.size(); o++) {
            if (s.left[o] > 0 && bog.ovens.get(o).quarter == q) sum += bog.ovens.get(o).strong;
        }
        return sum;
    }

    private int lean(State s, int q) {
        int lit = 0;
        int others = 0;
        for (int o = 0; o < bog.ovens.size(); o++) {
            if (s.left[o] > 0 && bog.ovens.get(o).quarter == q) lit++;
            if (s.left[o] > 0 && bog.ovens.get(o).quarter != q) others += bog.ovens.get(o).strong;
        }
        Quarter t = bog.quarters.get(q);
        int noses = s.cold[q] ? t.noses / 2 : t.noses;
        return clamp(law.applyAsInt(new Facts(bread(s, q), noses, lit, others, s.onions[q], t.side, s.hour)), 99);
    }

    private static int clamp(int v, int most) { return v > most ? most : v < -most ? -most : v; }

    private int leans(State s, int d) {
        int sum = 0;
        for (int q = 0; q < bog.quarters.size(); q++) if (bog.quarters.get(q).side == d) sum += lean(s, q);
        return sum;
    }

    private int east(State s) { return clamp((leans(s, 1) - leans(s, 3)) / 10, 3); }

    private int north(State s) { return clamp((leans(s, 0) - leans(s, 2)) / 10, 3); }

    private boolean blocked(int x, int y) {
        return x < 0 || x > 30 || y < 0 || y > 30 || bog.reeds.contains(new Cell(x, y));
    }

    private void hour(State s) {
        int e = east(s);
        int n = north(s);
        for (; e != 0; e -= Integer.signum(e)) {
            if (blocked(s.x + Integer.signum(e), s.y)) {
                s.aground++;
                break;
            }
            s.x += Integer.signum(e);
        }
        for (; n != 0; n -= Integer.signum(n)) {
            if (blocked(s.x, s.y + Integer.signum(n))) {
                s.aground++;
                break;
            }
            s.y += Integer.signum(n);
        }
        for (int o = 0; o < 8; o++) s.left[o] = Math.max(0, s.left[o] - 1);
        s.hour++;
    }

    private int litBits(State s) {
        int bits = 0;
        for (int o = 0; o < 8; o++) if (s.left[o] > 0) bits += 1 << o;
        return bits;
    }

    // ---- asking ----

    private IllegalArgumentException unfit() { unfit++; return new IllegalArgumentException(); }

    private void there(int i, List<?> of) {
        if (i < 0 || i >= of.size()) {
            missing++;
            throw new NoSuchElementException();
        }
    }

    private void in(int v, int least, int most) { if (v < least || v > most) throw unfit(); }

    int told(int what) {
        in(what, 0, 11);
        return new int[] {bog.quarters.size(), bog.ovens.size(), bog.reeds.size(), bog.moorings.size(), now.hour, now.x,
            now.y, now.flour, now.aground, book.size(), refused, litBits(now)}[what];
    }

    int quarter(int q, int what) {
        there(q, bog.quarters);
        in(what, 0, 6);
        int in = 0;
        for (int o = 0; o < bog.ovens.size(); o++) if (bog.ovens.get(o).quarter == q) in |= 1 << o;
        Quarter t = bog.quarters.get(q);
        return new int[] {t.side, t.noses, bread(now, q), now.onions[q], now.cold[q] ? 1 : 0, lean(now, q), in}[what];
    }

    int oven(int o, int what) {
        there(o, bog.ovens);
        in(what, 0, 3);
        return new int[] {bog.ovens.get(o).quarter, bog.ovens.get(o).strong, now.left[o], now.times[o]}[what];
    }

    private int far(Cell c) { return Math.abs(c.x - now.x) + Math.abs(c.y - now.y); }

    int mooring(int m, int what) {
        there(m, bog.moorings);
        in(what, 0, 2);
        Cell c = bog.moorings.get(m);
        return new int[] {c.x, c.y, far(c)}[what];
    }

    int reed(int x, int y) {
        in(x, 0, 30);
        in(y, 0, 30);
        return bog.reeds.contains(new Cell(x, y)) ? 1 : 0;
    }

    int drift(int what) {
        in(what, 0, 1);
        return what == 0 ? east(now) : north(now);
    }

    int would(int bread, int noses, int lit, int others, int onions, int side, int hour) {
        if (bread < 0 || bread > 72 || noses < 0 || noses > 99 || lit < 0 || lit > 8 || others < 0 || others > 72
                || onions < 0 || onions > 99 || side < 0 || side > 3 || hour < 0 || hour > 900) throw unfit();
        return clamp(law.applyAsInt(new Facts(bread, noses, lit, others, onions, side, hour)), 99);
    }

    int ahead(int n, int what) {
        if (n < 0 || n > 99 || what < 0 || what > 3) throw unfit();
        State s = now.copy();
        for (int i = 0; i < n; i++) hour(s);
        return new int[] {s.x, s.y, s.aground, litBits(s)}[what];
    }

    private List<Integer> sets() {
        List<Integer> all = new ArrayList<>();
        for (int set = 0; set < 1 << bog.ovens.size(); set++) {
            if ((set & litBits(now)) == 0 && Integer.bitCount(set) <= now.flour) all.add(set);
        }
        return all;
    }

    private Cell after(int set, int hours) {
        State s = now.copy();
        for (int o = 0; o < 8; o++) if ((set >> o & 1) == 1) light(s, o);
        for (int i = 0; i < hours; i++) hour(s);
        return new Cell(s.x, s.y);
    }

    int pilot(int m, int n) {
        there(m, bog.moorings);
        in(n, 0, 12);
        for (int size = 0; size <= 8; size++) {
            for (int set : sets()) {
                if (Integer.bitCount(set) == size && after(set, n).equals(bog.moorings.get(m))) return set;
            }
        }
        return -1;
    }

    int trim(int q) {
        there(q, bog.quarters);
        for (int n = 0; n <= 99; n++) {
            State s = now.copy();
            s.onions[q] = n;
            if (east(s) == 0 && north(s) == 0) return n;
        }
        return -1;
    }

    int steps(int m) {
        there(m, bog.moorings);
        Map<Cell, Integer> far = new HashMap<>();
        List<Cell> queue = new ArrayList<>();
        Cell start = new Cell(now.x, now.y);
        far.put(start, 0);
        queue.add(start);
        for (int i = 0; i < queue.size(); i++) {
            Cell c = queue.get(i);
            for (int[] w : new int[][] {{1, 0}, {0, 1}, {0, -1}, {-1, 0}}) {
                Cell d = new Cell(c.x + w[0], c.y + w[1]);
                if (!blocked(d.x, d.y) && !far.containsKey(d)) {
                    far.put(d, far.get(c) + 1);
                    queue.add(d);
                }
            }
        }
        return far.getOrDefault(bog.moorings.get(m), -1);
    }

    private List<Integer> fitting() {
        List<Integer> all = new ArrayList<>();
        for (int set : sets()) {
            boolean right = true;
            for (int h : book.keySet()) right = right && after(set, h).equals(book.get(h));
            if (right) all.add(set);
        }
        return all;
    }

    int fits(int what) {
        in(what, 0, 2);
        List<Integer> all = fitting();
        if (what == 0) return all.size();
        if (what == 1) return all.isEmpty() ? -1 : all.get(0);
        int sure = all.isEmpty() ? 0 : 255;
        for (int set : all) sure &= set;
        return sure;
    }

    int look(int what) {
        in(what, 0, 1);
        int best = -1;
        int least = Integer.MAX_VALUE;
        List<Integer> all = fitting();
        for (int h = 1; h <= 12; h++) {
            if (book.containsKey(h)) continue;
            Map<Cell, Integer> by = new HashMap<>();
            for (int set : all) by.merge(after(set, h), 1, Integer::sum);
            int worst = by.values().stream().mapToInt(v -> v).max().orElse(0);
            if (worst < least) {
                best = h;
                least = worst;
            }
        }
        return what == 0 ? best : least;
    }

    long gusts(int n, int k, int q, int part) {
        if (n < 0 || n > 12 || k < 0 || k > 12 || q < 0 || q > 16 || part < 0 || part > 1) throw unfit();
        long[] likely = new long[14];
        likely[0] = 1;
        long below = 1;
        for (int i = 0; i < n; i++) {
            for (int j = 13; j >= 0; j--) likely[j] = likely[j] * (16 - q) + (j > 0 ? likely[j - 1] * q : 0);
            below *= 16;
        }
        java.math.BigInteger a = java.math.BigInteger.valueOf(likely[k]);
        long g = a.gcd(java.math.BigInteger.valueOf(below)).longValue();
        return part == 0 ? likely[k] / g : below / g;
    }

    private static int has(int mine, int his, int v) {
        return (mine > his ? v : mine < his ? 0 : v / 2) - mine;
    }

    int bakers(int k, int v, int what) {
        if (k < 0 || k > 9 || v < 0 || v > 99 || what < 0 || what > 2) throw unfit();
        List<int[]> rests = new ArrayList<>();
        for (int a = 0; a <= k; a++) {
            for (int b = 0; b <= k; b++) {
                boolean rest = true;
                for (int c = 0; c <= k; c++) {
                    if (has(c, b, v) > has(a, b, v) || has(c, a, v) > has(b, a, v)) rest = false;
                }
                if (rest) rests.add(new int[] {a, b});
            }
        }
        if (what == 0) return rests.size();
        if (rests.isEmpty()) return what == 1 ? -1 : 0;
        int[] f = rests.get(0);
        return what == 1 ? 10 * f[0] + f[1] : has(f[0], f[1], v) + has(f[1], f[0], v);
    }

    int sacks(int q, int quarters, int n) {
        there(q, bog.quarters);
        if (quarters < 0 || quarters >= 1 << bog.quarters.size() || n < 0 || n > 999) throw unfit();
        if ((quarters & 1 << q) == 0) return 0;
        for (int bound = 999;; bound--) {
            int given = 0;
            for (int i = 0; i < bog.quarters.size(); i++) {
                if ((quarters & 1 << i) != 0) given += Math.min(bound, bog.quarters.get(i).noses);
            }
            if (given <= n) return Math.min(bound, bog.quarters.get(q).noses);
        }
    }

    private boolean league(int set) {
        int in = 0;
        int out = 0;
        for (int i = 0; i < bog.quarters.size(); i++) {
            if ((set >> i & 1) == 1) in += bog.quarters.get(i).noses;
            else out += bog.quarters.get(i).noses;
        }
        return in > out;
    }

    int leagues() {
        int many = 0;
        for (int set = 0; set < 1 << bog.quarters.size(); set++) if (league(set)) many++;
        return many;
    }

    int key(int q) {
        there(q, bog.quarters);
        int many = 0;
        for (int set = 0; set < 1 << bog.quarters.size(); set++) {
            if ((set >> q & 1) == 1 && league(set) && !league(set - (1 << q))) many++;
        }
        return many;
    }

    int nearest(int what) {
        in(what, 0, 1);
        if (bog.moorings.isEmpty()) return -1;
        int least = bog.moorings.stream().mapToInt(this::far).min().getAsInt();
        for (int m = 0;; m++) if (far(bog.moorings.get(m)) == least) return what == 0 ? m : least;
    }

    int sweetest(int what) {
        in(what, 0, 1);
        for (int v = 99; v >= -99; v--) {
            for (int q = 0; q < bog.quarters.size(); q++) if (lean(now, q) == v) return what == 0 ? q : v;
        }
        return what == 0 ? -1 : 0;
    }

    int heaviest(int what) {
        in(what, 0, 1);
        int[] noses = new int[4];
        for (Quarter q : bog.quarters) noses[q.side] += q.noses;
        int best = 3;
        for (int d = 2; d >= 0; d--) if (noses[d] >= noses[best]) best = d;
        return what == 0 ? best : noses[best];
    }

    int side(int d) {
        in(d, 0, 3);
        return leans(now, d);
    }

    int room(int d) {
        in(d, 0, 3);
        int[] dx = {0, 1, 0, -1};
        int[] dy = {1, 0, -1, 0};
        int cells = 0;
        while (!blocked(now.x + dx[d] * (cells + 1), now.y + dy[d] * (cells + 1))) cells++;
        return cells;
    }

    int wreck() {
        State s = now.copy();
        for (int i = 1; i <= 200; i++) {
            hour(s);
            if (s.aground != now.aground) return i;
        }
        return -1;
    }

    int cool(int what) {
        in(what, 0, 1);
        int bits = (1 << bog.ovens.size()) - 1 - litBits(now);
        if (what == 0) return bits;
        for (int s = 9; s >= 1; s--) {
            for (int o = 0; o < bog.ovens.size(); o++) {
                if ((bits >> o & 1) == 1 && bog.ovens.get(o).strong == s) return o;
            }
        }
        return -1;
    }

    int safe() {
        int bits = 0;
        for (int m = 0; m < bog.moorings.size(); m++) {
            Cell c = bog.moorings.get(m);
            if (!blocked(c.x - 1, c.y) && !blocked(c.x + 1, c.y) && !blocked(c.x, c.y - 1) && !blocked(c.x, c.y + 1)) {
                bits |= 1 << m;
            }
        }
        return bits;
    }

    private State afterSeason(int seed, int c, int hours) {
        State s = now.copy();
        int[] box = {seed};
        for (int i = 0; i < hours; i++) {
            if (!bog.ovens.isEmpty()) {
                light(s, draw(box, bog.ovens.size()));
                int q = draw(box, bog.quarters.size());
                if (draw(box, 16) < c) s.cold[q] = !s.cold[q];
            }
            hour(s);
        }
        return s;
    }

    private static int draw(int[] seed, int many) {
        long next = (seed[0] * 1103515245L + 12345L) & 0xffffffffL;
        seed[0] = (int) next;
        return (int) ((next / 65536 % 32768) % many);
    }

    int season(int seed, int c, int hours, int what) {
        if (c < 0 || c > 16 || hours < 1 || hours > 96 || what < 0 || what > 3) throw unfit();
        State s = afterSeason(seed, c, hours);
        return new int[] {s.x, s.y, s.flour, s.aground}[what];
    }

    int span(int seed, int many, int c, int hours, int what) {
        if (many < 1 || many > 20 || c < 0 || c > 16 || hours < 1 || hours > 96 || what < 0 || what > 2) throw unfit();
        Set<Integer> xs = new HashSet<>();
        int moored = 0;
        for (int i = 0; i < many; i++) {
            State s = afterSeason(seed + i, c, hours);
            xs.add(s.x);
            if (bog.moorings.contains(new Cell(s.x, s.y))) moored++;
        }
        if (what == 2) return moored;
        return what == 0 ? xs.stream().min(Integer::compare).get() : xs.stream().max(Integer::compare).get();
    }

    int image() {
        if (images.size() == 3) return -1;
        List<State> kept = new ArrayList<>();
        for (State s : works) kept.add(s.copy());
        images.add(new Image(now.copy(), kept));
        return images.size();
    }

    int restore() {
        if (images.isEmpty()) return -1;
        Image i = images.remove(images.size() - 1);
        now = i.state;
        works = i.works;
        refused = 0;
        return images.size();
    }

    int status(int what) { return what == 0 ? missing : what == 1 ? unfit : -1; }

    int count(int what) {
        return what == 0 ? images.size() : what == 1 ? tape.length : what == 2 ? works.size() : -1;
    }
}
