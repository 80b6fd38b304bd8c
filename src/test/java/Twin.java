import java.util.ArrayList;
import java.util.Arrays;
import java.util.List;
import java.util.NoSuchElementException;
import java.util.function.Supplier;

/** Two cities made alike: of one a call is asked, then both are asked everything, and must answer alike. */
final class Twin {
    interface On {
        long answer(BreadCity city);
    }

    static final String BOG = "quarter 1 20;quarter 3 10;quarter 0 30;oven 0 5;oven 1 4;oven 2 2;oven 0 3;"
        + "reed 18 15;reed 14 14;mooring 16 15;mooring 15 17;flour 7;";
    /** Twenty bytes that are a sound text of their own. */
    static final String TAPE = "flour 31;           ";

    private Twin() { }

    /** A city in which there is something of everything: a LAW, a BOOK, WORKS, IMAGES, a FAULT, a TAPE, refusals. */
    static BreadCity rich() {
        BreadCity c = Check.cityOf(BOG);
        Check.law(c, "bread * noses / 9 - onions + hour % 3");
        Check.work(c, "light 0;onions 1 4;hour;");
        c.image();
        Check.work(c, "light 1;cold 0;cold 2;onions 0 2;hour;quench 3;quench 3;");
        c.image();
        Check.work(c, "light 2;light 2;onions 2 1;hour;");
        Check.book(c, "1 17 16;12 17 17;");
        Check.law(c, "1 + x");
        Check.unfit("told(-1)", () -> c.told(-1));
        Check.missing("key(9)", () -> c.key(9));
        Check.missing("key(-9)", () -> c.key(-9));
        Check.tell(c, TAPE);
        return c;
    }

    static BreadCity withFullTape() {
        BreadCity c = rich();
        for (int i = 0; i < 29; i++) {
            Check.tell(c, TAPE);
        }
        return c;
    }

    static BreadCity withSixteenWorks() {
        BreadCity c = rich();
        c.law(0);
        while (c.count(2) < 16) {
            Check.work(c, c.count(2) % 2 == 0 ? "cold 1;" : "hour;quench 1;quench 1;");
        }
        Check.law(c, "1 + x");
        Check.tell(c, TAPE);
        return c;
    }

    static BreadCity withThreeImages() {
        BreadCity c = rich();
        c.image();
        return c;
    }

    /** Throws, counts one refusal more of its kind, and leaves all else as it was. */
    static void refused(String what, Class<?> kind, Supplier<BreadCity> maker, On call) {
        BreadCity one = maker.get();
        int missing = one.status(0) + (kind == NoSuchElementException.class ? 1 : 0);
        int unfit = one.status(1) + (kind == IllegalArgumentException.class ? 1 : 0);
        Class<?> thrown = Check.thrownBy(() -> call.answer(one));
        Check.report(thrown == kind, what + " did not throw " + kind.getSimpleName() + ": " + thrown);
        Check.is(what + ", status(0)", one.status(0), missing);
        Check.is(what + ", status(1)", one.status(1), unfit);
        alike(what, one, maker.get());
    }

    static void unfit(String what, On call) {
        refused(what, IllegalArgumentException.class, Twin::rich, call);
    }

    static void missing(String what, On call) {
        refused(what, NoSuchElementException.class, Twin::rich, call);
    }

    /** Answers so, and leaves all as it was; no refusal is counted. */
    static void idle(String what, Supplier<BreadCity> maker, On call, long due) {
        BreadCity one = maker.get();
        BreadCity other = maker.get();
        Check.is(what, call.answer(one), due);
        Check.is(what + ", status(0)", one.status(0), other.status(0));
        Check.is(what + ", status(1)", one.status(1), other.status(1));
        alike(what, one, other);
    }

    /** Whatever it answers, all is as it was, and no refusal is counted. */
    static void unchanged(String what, On call) {
        BreadCity one = rich();
        BreadCity other = rich();
        Class<?> thrown = Check.thrownBy(() -> call.answer(one));
        Check.report(thrown == null, what + " threw " + thrown);
        Check.is(what + ", status(0)", one.status(0), other.status(0));
        Check.is(what + ", status(1)", one.status(1), other.status(1));
        alike(what, one, other);
    }

    static void alike(String what, BreadCity one, BreadCity other) {
        List<String> names = new ArrayList<>();
        long[] have = everything(one, names);
        long[] due = everything(other, new ArrayList<>());
        Check.is(what + ", then answers", have.length, due.length);
        for (int i = 0; i < Math.min(have.length, due.length); i++) {
            Check.report(have[i] == due[i], what + ", then " + names.get(i) + " answered " + have[i] + ", due is " + due[i]);
        }
    }

    /** What a city answers; it is used up by that, for its WORKS are undone and its IMAGES taken. */
    private static long[] everything(BreadCity c, List<String> names) {
        List<Long> answers = new ArrayList<>();
        standing(c, answers, names);
        beside(c, answers, names);
        put(answers, names, "pilot", c.told(3) == 0 ? 0 : c.pilot(0, 3));
        put(answers, names, "season", c.season(5, 5, 9, 0));
        for (int left = c.undo(); left >= 0; left = c.undo()) {
            put(answers, names, "undo", left);
            put(answers, names, "behind undo, where", 100 * c.told(5) + c.told(6));
            put(answers, names, "behind undo, the flour and the hour", 100 * c.told(7) + c.told(4));
        }
        for (int left = c.restore(); left >= 0; left = c.restore()) {
            put(answers, names, "restore", left);
            standing(c, answers, names);
            put(answers, names, "undo behind restore", c.undo());
            standing(c, answers, names);
        }
        put(answers, names, "bog of the tape", c.bog(c.count(1)));
        put(answers, names, "fault of it", c.fault());
        put(answers, names, "flour of it", c.told(7));
        long[] row = new long[answers.size()];
        Arrays.setAll(row, i -> answers.get(i));
        return row;
    }

    private static void put(List<Long> answers, List<String> names, String name, long answer) {
        answers.add(answer);
        names.add(name);
    }

    private static void standing(BreadCity c, List<Long> answers, List<String> names) {
        for (int i = 0; i <= 11; i++) {
            put(answers, names, "told(" + i + ")", c.told(i));
        }
        for (int q = 0; q < c.told(0); q++) {
            put(answers, names, "onions and cold of " + q, 2 * c.quarter(q, 3) + c.quarter(q, 4));
        }
        for (int o = 0; o < c.told(1); o++) {
            put(answers, names, "hours and times of " + o, 100 * c.oven(o, 2) + c.oven(o, 3));
        }
    }

    private static void beside(BreadCity c, List<Long> answers, List<String> names) {
        for (int i = 0; i < 3; i++) {
            put(answers, names, "count(" + i + ")", c.count(i));
        }
        put(answers, names, "fault()", c.fault());
        put(answers, names, "would", c.would(5, 11, 1, 4, 3, 2, 7));
        put(answers, names, "fits(0)", c.fits(0));
        put(answers, names, "fits(1)", c.fits(1));
        put(answers, names, "look(1)", c.look(1));
        put(answers, names, "reeds", 2 * c.reed(18, 15) + c.reed(14, 14));
        for (int q = 0; q < c.told(0); q++) {
            put(answers, names, "noses and side of " + q, 10 * c.quarter(q, 1) + c.quarter(q, 0));
        }
        for (int o = 0; o < c.told(1); o++) {
            put(answers, names, "quarter and strength of " + o, 10 * c.oven(o, 0) + c.oven(o, 1));
        }
        for (int m = 0; m < c.told(3); m++) {
            put(answers, names, "place of " + m, 100 * c.mooring(m, 0) + c.mooring(m, 1));
        }
    }
}
