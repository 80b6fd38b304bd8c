import java.util.NoSuchElementException;
import java.util.function.Supplier;

/**
 * Each call that is refused, by each of its arguments: the last number that is taken and the first that is not, on both
 * sides; what it throws, what is counted, and that all else stays. The city is Twin.rich(): three QUARTERS, four OVENS,
 * two MOORINGS, twenty bytes on the TAPE.
 */
public final class RefusalTests {
    private interface With {
        long answer(BreadCity city, int value);
    }

    public static void main(String[] args) {
        texts();
        toldAndBelow();
        numbersOfThings();
        driftsAndHours();
        reckonings();
        greatest();
        seasons();
        missingAheadOfUnfit();
        answersThatDoNothing();
        status();
        Check.end("RefusalTests");
    }

    /** Taken from least to most; refused by IllegalArgumentException on both sides, next to them and far off. */
    private static void range(String what, int least, int most, With call) {
        ends(what, IllegalArgumentException.class, Twin::rich, least, most, call);
    }

    /** Taken from 0 to so many; refused by NoSuchElementException on both sides. */
    private static void number(String what, int many, With call) {
        ends(what, NoSuchElementException.class, Twin::rich, 0, many - 1, call);
    }

    private static void ends(String what, Class<?> kind, Supplier<BreadCity> maker, int least, int most, With call) {
        for (int value : new int[] {least, most}) {
            BreadCity c = maker.get();
            int before = c.status(0) + c.status(1);
            Class<?> thrown = Check.thrownBy(() -> call.answer(c, value));
            Check.report(thrown == null, what + " of " + value + " threw " + thrown);
            Check.is(what + " of " + value + ", refusals", c.status(0) + c.status(1), before);
        }
        for (int value : new int[] {least - 1, most + 1, Integer.MIN_VALUE, Integer.MAX_VALUE}) {
            Twin.refused(what + " of " + value, kind, maker, c -> call.answer(c, value));
        }
    }

    // Promises 3 to 6
    private static void texts() {
        Check.sentence("IllegalArgumentException: n is not 0 to the TAPE's bytes (it stays).");
        ends("bog", IllegalArgumentException.class, Twin::rich, 0, 20, BreadCity::bog);
        ends("bog of a full TAPE", IllegalArgumentException.class, Twin::withFullTape, 0, 600, BreadCity::bog);
        ends("bog of an empty TAPE", IllegalArgumentException.class, RefusalTests::withEmptyTape, 0, 0, BreadCity::bog);
        Check.sentence("Likewise the LAW (n to 150): 1.");
        ends("law", IllegalArgumentException.class, Twin::rich, 0, 20, BreadCity::law);
        ends("law of a full TAPE", IllegalArgumentException.class, Twin::withFullTape, 0, 150, BreadCity::law);
        ends("law of an empty TAPE", IllegalArgumentException.class, RefusalTests::withEmptyTape, 0, 0, BreadCity::law);
        Check.sentence("Likewise WORK (n to 150), which is done");
        ends("work", IllegalArgumentException.class, Twin::rich, 0, 20, BreadCity::work);
        ends("work of a full TAPE", IllegalArgumentException.class, Twin::withFullTape, 0, 150, BreadCity::work);
        ends("work of an empty TAPE", IllegalArgumentException.class, RefusalTests::withEmptyTape, 0, 0, BreadCity::work);
        ends("a 17th work", IllegalArgumentException.class, Twin::withSixteenWorks, 0, 20, BreadCity::work);
        Check.sentence("Likewise the BOOK (n to 60): how many lines.");
        ends("book", IllegalArgumentException.class, Twin::rich, 0, 20, BreadCity::book);
        ends("book of a full TAPE", IllegalArgumentException.class, Twin::withFullTape, 0, 60, BreadCity::book);
        ends("book of an empty TAPE", IllegalArgumentException.class, RefusalTests::withEmptyTape, 0, 0, BreadCity::book);
    }

    private static BreadCity withEmptyTape() {
        BreadCity c = Twin.rich();
        c.law(0);
        return c;
    }

    // Promises 9 to 13
    private static void toldAndBelow() {
        Check.sentence("IllegalArgumentException: another what (so below).");
        range("told", 0, 11, BreadCity::told);
        range("what of quarter", 0, 6, (c, v) -> c.quarter(2, v));
        range("what of oven", 0, 3, (c, v) -> c.oven(3, v));
        range("what of mooring", 0, 2, (c, v) -> c.mooring(1, v));
        Check.sentence("1 a reed, 0 not, at X, Y (0 to 30).");
        range("x of reed", 0, 30, (c, v) -> c.reed(v, 0));
        range("y of reed", 0, 30, (c, v) -> c.reed(30, v));
    }

    private static void numbersOfThings() {
        Check.sentence("NoSuchElementException: no such QUARTER, OVEN, MOORING (so below, ahead of others).");
        number("quarter", 3, (c, v) -> c.quarter(v, 0));
        number("oven", 4, (c, v) -> c.oven(v, 0));
        number("mooring", 2, (c, v) -> c.mooring(v, 0));
        number("mooring of pilot", 2, (c, v) -> c.pilot(v, 1));
        number("quarter of trim", 3, BreadCity::trim);
        number("mooring of steps", 2, BreadCity::steps);
        number("quarter of sacks", 3, (c, v) -> c.sacks(v, 7, 9));
        number("quarter of key", 3, BreadCity::key);
        Supplier<BreadCity> none = BreadCity::new;
        for (int v : new int[] {-1, 0, 1, 5, 6, 8}) {
            Twin.refused("quarter of none", NoSuchElementException.class, none, c -> c.quarter(v, 0));
            Twin.refused("oven of none", NoSuchElementException.class, none, c -> c.oven(v, 0));
            Twin.refused("mooring of none", NoSuchElementException.class, none, c -> c.mooring(v, 0));
            Twin.refused("pilot of none", NoSuchElementException.class, none, c -> c.pilot(v, 0));
            Twin.refused("trim of none", NoSuchElementException.class, none, c -> c.trim(v));
            Twin.refused("steps of none", NoSuchElementException.class, none, c -> c.steps(v));
            Twin.refused("sacks of none", NoSuchElementException.class, none, c -> c.sacks(v, 0, 0));
            Twin.refused("key of none", NoSuchElementException.class, none, c -> c.key(v));
        }
        Supplier<BreadCity> full = RefusalTests::withAll;
        ends("quarter of six", NoSuchElementException.class, full, 0, 5, (c, v) -> c.quarter(v, 6));
        ends("oven of eight", NoSuchElementException.class, full, 0, 7, (c, v) -> c.oven(v, 3));
        ends("mooring of six", NoSuchElementException.class, full, 0, 5, (c, v) -> c.mooring(v, 2));
        ends("pilot of six", NoSuchElementException.class, full, 0, 5, (c, v) -> c.pilot(v, 12));
        ends("trim of six", NoSuchElementException.class, full, 0, 5, BreadCity::trim);
        ends("steps of six", NoSuchElementException.class, full, 0, 5, BreadCity::steps);
        ends("sacks of six", NoSuchElementException.class, full, 0, 5, (c, v) -> c.sacks(v, 63, 999));
        ends("key of six", NoSuchElementException.class, full, 0, 5, BreadCity::key);
    }

    /** The greatest number of QUARTERS, OVENS, reeds and MOORINGS. */
    private static BreadCity withAll() {
        return Check.cityOf("quarter 1 99;".repeat(6) + "oven 5 9;".repeat(8) + "mooring 30 30;".repeat(6)
            + "reed 0 0;".repeat(12) + "flour 99;");
    }

    // Promises 14 to 21
    private static void driftsAndHours() {
        Check.sentence("0 east (below 0: west), 1 north (below 0: south); reeds not asked.");
        range("drift", 0, 1, BreadCity::drift);
        Check.sentence("for such bread (0 to 72), noses (0 to 99), lit (0 to 8), others (0 to 72), onions (0 to 99), side (0 to 3), "
            + "hour (0 to 900).");
        range("bread of would", 0, 72, (c, v) -> c.would(v, 0, 0, 0, 0, 0, 0));
        range("noses of would", 0, 99, (c, v) -> c.would(72, v, 8, 72, 99, 3, 900));
        range("lit of would", 0, 8, (c, v) -> c.would(0, 0, v, 0, 0, 0, 0));
        range("others of would", 0, 72, (c, v) -> c.would(0, 0, 0, v, 0, 0, 0));
        range("onions of would", 0, 99, (c, v) -> c.would(0, 0, 0, 0, v, 0, 0));
        range("side of would", 0, 3, (c, v) -> c.would(0, 0, 0, 0, 0, v, 0));
        range("hour of would", 0, 900, (c, v) -> c.would(72, 99, 8, 72, 99, 3, v));
        Check.sentence("In n HOURS (0 to 99), nothing else being done");
        range("n of ahead", 0, 99, (c, v) -> c.ahead(v, 0));
        range("what of ahead", 0, 3, (c, v) -> c.ahead(99, v));
        Check.sentence("PILOT by n (0 to 12), as bits.");
        range("n of pilot", 0, 12, (c, v) -> c.pilot(1, v));
        Check.sentence("FITS: 0 how many sets, 1 the first (NONE), 2 SURE (bits; 0 without).");
        range("fits", 0, 2, BreadCity::fits);
        Check.sentence("LOOK: 0 the hour, 1 how many sets are left at the worst.");
        range("look", 0, 1, BreadCity::look);
    }

    // Promises 22 to 24
    private static void reckonings() {
        Check.sentence("GUSTS of n (0 to 12), k (0 to 12), q (0 to 16): above (part 0), below (part 1), in least terms.");
        range("n of gusts", 0, 12, (c, v) -> c.gusts(v, 0, 0, 0));
        range("k of gusts", 0, 12, (c, v) -> c.gusts(12, v, 16, 1));
        range("q of gusts", 0, 16, (c, v) -> c.gusts(0, 12, v, 0));
        range("part of gusts", 0, 1, (c, v) -> c.gusts(12, 12, 16, v));
        Check.sentence("BAKERS by k (0 to 9), v (0 to 99)");
        range("k of bakers", 0, 9, (c, v) -> c.bakers(v, 0, 0));
        range("v of bakers", 0, 99, (c, v) -> c.bakers(9, v, 2));
        range("what of bakers", 0, 2, (c, v) -> c.bakers(0, 99, v));
        Check.sentence("What a QUARTER gets of n (0 to 999) by SACKS among told QUARTERS (0, if it is none of them).");
        range("n of sacks", 0, 999, (c, v) -> c.sacks(2, 7, v));
        Check.sentence("IllegalArgumentException: bits of no QUARTERS.");
        range("quarters of sacks", 0, 7, (c, v) -> c.sacks(2, v, 9));
        for (int bit = 3; bit < 32; bit++) {
            int bits = 1 << bit | 5;
            Twin.unfit("sacks by bit " + bit, c -> c.sacks(0, bits, 9));
        }
        ends("quarters of sacks of six", IllegalArgumentException.class, RefusalTests::withAll, 0, 63,
            (c, v) -> c.sacks(5, v, 9));
    }

    // Promises 27 to 33
    private static void greatest() {
        Check.sentence("The MOORING that is nearest (what 0; as by mooring(.., 2)), of alike ones the first, how far (1);");
        range("nearest", 0, 1, BreadCity::nearest);
        Check.sentence("The QUARTER of the greatest LEAN (what 0), of alike ones the first, that LEAN (1; 0 without);");
        range("sweetest", 0, 1, BreadCity::sweetest);
        Check.sentence("The side (0 to 3) with most noses as told (what 0), of alike ones the least, how many (1).");
        range("heaviest", 0, 1, BreadCity::heaviest);
        Check.sentence("LEANS of all QUARTERS to a side (0 to 3) together.");
        range("side", 0, 3, BreadCity::side);
        Check.sentence("How many cells there are from where it lies to a side (0 to 3)");
        range("room", 0, 3, BreadCity::room);
        Check.sentence("OVENS that are not lit: 0 as bits, 1 the strongest of them, of alike ones the first (NONE).");
        range("cool", 0, 1, BreadCity::cool);
    }

    // Promises 35 and 36
    private static void seasons() {
        Check.sentence("A SEASON of so many HOURS (1 to 96), C (0 to 16): 0 X then, 1 Y then, 2 flour that is left then, "
            + "3 how often it ran AGROUND by then.");
        range("c of season", 0, 16, (c, v) -> c.season(1, v, 1, 0));
        range("hours of season", 1, 96, (c, v) -> c.season(1, 16, v, 0));
        range("what of season", 0, 3, (c, v) -> c.season(1, 0, 96, v));
        Check.sentence("Of so many SEEDS (1 to 20; seed, seed and 1, ..)");
        range("many of span", 1, 20, (c, v) -> c.span(1, v, 0, 1, 0));
        range("c of span", 0, 16, (c, v) -> c.span(1, 1, v, 1, 0));
        range("hours of span", 1, 96, (c, v) -> c.span(1, 20, 16, v, 0));
        range("what of span", 0, 2, (c, v) -> c.span(1, 20, 0, 96, v));
        Check.sentence("DRAW: the SEED (32 bits)");
        BreadCity c = Twin.rich();
        for (int seed : new int[] {Integer.MIN_VALUE, -1, 0, Integer.MAX_VALUE}) {
            Check.report(Check.thrownBy(() -> c.season(seed, 0, 1, 0)) == null, "season by seed " + seed);
            Check.report(Check.thrownBy(() -> c.span(seed, 20, 0, 1, 0)) == null, "span by seed " + seed);
        }
    }

    private static void missingAheadOfUnfit() {
        Check.sentence("no such QUARTER, OVEN, MOORING (so below, ahead of others).");
        for (int v : new int[] {Integer.MIN_VALUE, -1, 9, Integer.MAX_VALUE}) {
            Twin.missing("quarter(" + v + ", 7)", c -> c.quarter(v, 7));
            Twin.missing("oven(" + v + ", 4)", c -> c.oven(v, 4));
            Twin.missing("mooring(" + v + ", 3)", c -> c.mooring(v, 3));
            Twin.missing("pilot(" + v + ", 13)", c -> c.pilot(v, 13));
            Twin.missing("sacks(" + v + ", 8, 0)", c -> c.sacks(v, 8, 0));
            Twin.missing("sacks(" + v + ", 7, 1000)", c -> c.sacks(v, 7, 1000));
        }
    }

    /** What answers NONE instead of throwing: nothing is done, nothing is counted as refused. */
    private static void answersThatDoNothing() {
        Check.sentence("NONE, doing nothing, if there would be more than 600.");
        Twin.idle("feed of a full TAPE", Twin::withFullTape, c -> c.feed(1, 2, 3, 4, 5), -1);
        Check.sentence("The latest WORK that was done is undone: how many are left; -1: there is none.");
        Twin.idle("undo of none", RefusalTests::withoutWorks, BreadCity::undo, -1);
        Twin.idle("undo of none in a new object", BreadCity::new, BreadCity::undo, -1);
        Check.sentence("how many there are; -1: there are 3.");
        Twin.idle("image of a fourth", Twin::withThreeImages, BreadCity::image, -1);
        Check.sentence("All is as in the latest IMAGE, which is gone: how many are left; -1: there is none.");
        Twin.idle("restore of none", RefusalTests::withoutImages, BreadCity::restore, -1);
        Twin.idle("restore of none in a new object", BreadCity::new, BreadCity::restore, -1);
        Check.sentence("1 IllegalArgumentException; NONE for others. (No IMAGE keeps it.)");
        for (int what : new int[] {-1, 2, Integer.MIN_VALUE, Integer.MAX_VALUE}) {
            Twin.idle("status(" + what + ")", Twin::rich, c -> c.status(what), -1);
        }
        Check.sentence("0 IMAGES, 1 bytes of the TAPE, 2 WORKS that can be undone; NONE for others.");
        for (int what : new int[] {-1, 3, Integer.MIN_VALUE, Integer.MAX_VALUE}) {
            Twin.idle("count(" + what + ")", Twin::rich, c -> c.count(what), -1);
        }
    }

    private static BreadCity withoutWorks() {
        BreadCity c = Twin.rich();
        for (int i = 0; i < 3; i++) {
            c.undo();
        }
        return c;
    }

    private static BreadCity withoutImages() {
        BreadCity c = Twin.rich();
        c.restore();
        c.restore();
        Check.work(c, "cold 0;quench 2;quench 2;");
        Check.law(c, "1 + x");
        Check.tell(c, Twin.TAPE);
        return c;
    }

    // Promise 39
    private static void status() {
        Check.sentence("How many calls were refused: 0 NoSuchElementException, 1 IllegalArgumentException;");
        BreadCity c = new BreadCity();
        for (int i = 0; i < 100; i++) {
            Check.is("missing ahead of " + i, c.status(0), i);
            Check.missing("key", () -> c.key(0));
            Check.is("unfit ahead of " + i, c.status(1), i);
            Check.unfit("side", () -> c.side(4));
        }
        Check.sentence("(No IMAGE keeps it.)");
        BreadCity d = Check.cityOf(Twin.BOG);
        d.image();
        Check.missing("key", () -> d.key(3));
        Check.unfit("side", () -> d.side(4));
        Check.is("restore", d.restore(), 0);
        Check.is("missing behind restore", d.status(0), 1);
        Check.is("unfit behind restore", d.status(1), 1);
        Check.work(d, "hour;");
        Check.missing("key", () -> d.key(3));
        Check.unfit("side", () -> d.side(4));
        Check.is("undo", d.undo(), 0);
        Check.is("missing behind undo", d.status(0), 2);
        Check.is("unfit behind undo", d.status(1), 2);
        Check.is("a STEP that is REFUSED is no call", Check.work(d, "quench 0;") + d.status(0) + d.status(1), 4);
        Check.is("a FAULT is none", Check.work(d, "x") + d.status(0) + d.status(1), -5);
    }
}
