/** The sentences about what is asked of the hours ahead (part 3 of the document, promises 14 to 21 and 32): their edges. */
public final class AskEdgeTests {
    /** Eight OVENS alike in a QUARTER to the east. */
    private static final String EIGHT = "quarter 1 10;" + "oven 0 1;".repeat(8);
    private static final String LIGHT_ALL = "light 0;light 1;light 2;light 3;light 4;light 5;light 6;light 7;";

    public static void main(String[] args) {
        nothingStays();
        nothingStaysOfTexts();
        drift();
        would();
        ahead();
        pilotHours();
        pilotFlour();
        pilotOfUnlit();
        pilotFewest();
        pilotWays();
        pilotAsItStands();
        pilotWithout();
        beyondNineHundred();
        trim();
        trimBoth();
        steps();
        stepsInTheOpen();
        stepsShutIn();
        fitsAll();
        fitsLines();
        fitsSure();
        look();
        lookLines();
        lookAlike();
        wreck();
        Check.end("AskEdgeTests");
    }

    private static BreadCity city(String bog, String law) {
        BreadCity c = Check.cityOf(bog);
        Check.is("law <" + law + ">", Check.law(c, law), 1);
        return c;
    }

    private static void nothingStays() {
        Check.sentence("Asked, nothing stays changed;");
        for (int what = 0; what <= 11; what++) {
            int w = what;
            Twin.unchanged("told(" + w + ")", c -> c.told(w));
        }
        for (int what = 0; what <= 6; what++) {
            int w = what;
            Twin.unchanged("quarter(2, " + w + ")", c -> c.quarter(2, w));
        }
        for (int what = 0; what <= 3; what++) {
            int w = what;
            Twin.unchanged("oven(3, " + w + ")", c -> c.oven(3, w));
            Twin.unchanged("ahead(99, " + w + ")", c -> c.ahead(99, w));
            Twin.unchanged("season(5, 9, 96, " + w + ")", c -> c.season(5, 9, 96, w));
            Twin.unchanged("side(" + w + ")", c -> c.side(w));
            Twin.unchanged("room(" + w + ")", c -> c.room(w));
        }
        for (int what = 0; what <= 2; what++) {
            int w = what;
            Twin.unchanged("mooring(1, " + w + ")", c -> c.mooring(1, w));
            Twin.unchanged("trim(" + w + ")", c -> c.trim(w));
            Twin.unchanged("fits(" + w + ")", c -> c.fits(w));
            Twin.unchanged("bakers(9, 9, " + w + ")", c -> c.bakers(9, 9, w));
            Twin.unchanged("sacks(" + w + ", 7, 30)", c -> c.sacks(w, 7, 30));
            Twin.unchanged("key(" + w + ")", c -> c.key(w));
            Twin.unchanged("span(5, 20, 9, 96, " + w + ")", c -> c.span(5, 20, 9, 96, w));
            Twin.unchanged("count(" + w + ")", c -> c.count(w));
        }
        for (int what = 0; what <= 1; what++) {
            int w = what;
            Twin.unchanged("drift(" + w + ")", c -> c.drift(w));
            Twin.unchanged("pilot(" + w + ", 12)", c -> c.pilot(w, 12));
            Twin.unchanged("steps(" + w + ")", c -> c.steps(w));
            Twin.unchanged("look(" + w + ")", c -> c.look(w));
            Twin.unchanged("gusts(12, 6, 5, " + w + ")", c -> c.gusts(12, 6, 5, w));
            Twin.unchanged("nearest(" + w + ")", c -> c.nearest(w));
            Twin.unchanged("sweetest(" + w + ")", c -> c.sweetest(w));
            Twin.unchanged("heaviest(" + w + ")", c -> c.heaviest(w));
            Twin.unchanged("cool(" + w + ")", c -> c.cool(w));
            Twin.unchanged("status(" + w + ")", c -> c.status(w));
        }
        Twin.unchanged("reed", c -> c.reed(18, 15));
        Twin.unchanged("would", c -> c.would(72, 99, 8, 72, 99, 3, 900));
        Twin.unchanged("leagues", BreadCity::leagues);
        Twin.unchanged("wreck", BreadCity::wreck);
        Twin.unchanged("safe", BreadCity::safe);
        Twin.unchanged("fault", BreadCity::fault);
    }

    /** What was asked ahead of a text, an undo() or a restore() is asked anew behind it. */
    private static void nothingStaysOfTexts() {
        BreadCity c = city(EIGHT + "mooring 16 15;mooring 17 15;flour 8;", "least[lit, 1] * 10");
        Check.is("pilot", c.pilot(0, 1), 1);
        Check.law(c, "lit / 2 * 10");
        Check.is("pilot by another LAW", c.pilot(0, 1), 3);
        c.image();
        Check.work(c, "light 0;");
        Check.is("pilot behind a WORK", c.pilot(0, 1), 2);
        c.undo();
        Check.is("pilot behind undo()", c.pilot(0, 1), 3);
        Check.work(c, "light 0;light 1;");
        Check.is("fits behind a WORK", c.fits(0), 64);
        c.restore();
        Check.is("fits behind restore()", c.fits(0), 256);
        Check.is("pilot behind restore()", c.pilot(0, 1), 3);
        Check.bog(c, "quarter 3 10;oven 0 9;oven 0 9;mooring 16 15;");
        Check.is("pilot behind a BOG", c.pilot(0, 1), -1);
        Check.is("fits behind a BOG", c.fits(0), 4);
    }

    private static void drift() {
        Check.sentence("DRIFT as this hour begins: 0 east (below 0: west), 1 north (below 0: south); reeds not asked.");
        BreadCity c = city("quarter 1 1;quarter 0 1;city 30 30;reed 29 30;reed 30 29;", "30");
        Check.is("east, at the end", c.drift(0), 3);
        Check.is("north, at the end", c.drift(1), 3);
        Check.law(c, "0 - 30");
        Check.is("west, by a reed", c.drift(0), -3);
        Check.is("south, by a reed", c.drift(1), -3);
        Check.law(c, "hour * 10");
        Check.is("in HOUR 0", c.drift(0), 0);
        Check.work(c, "hour;");
        Check.is("in HOUR 1", c.drift(0), 1);
        BreadCity lit = Check.cityOf("quarter 1 20;quarter 2 20;oven 0 5;oven 1 5;");
        for (int left = 5; left >= 0; left--) {
            Check.is("east with " + left + " hours", lit.drift(0), left == 5 || left == 0 ? 0 : 1);
            Check.is("north with " + left + " hours", lit.drift(1), left == 5 || left == 0 ? 0 : -1);
            Check.work(lit, left == 5 ? "light 0;light 1;" : "hour;");
        }
    }

    private static void would() {
        Check.sentence("LEAN by the LAW for such bread (0 to 72), noses (0 to 99), lit (0 to 8), others (0 to 72), "
            + "onions (0 to 99), side (0 to 3), hour (0 to 900).");
        BreadCity c = city("quarter 1 50;oven 0 5;", "bread + noses + lit + others + onions + side + hour - 999 - 255");
        Check.is("all at the least", c.would(0, 0, 0, 0, 0, 0, 0), -99);
        Check.is("all at the most", c.would(72, 99, 8, 72, 99, 3, 900), -1);
        Check.work(c, "cold 0;");
        Check.is("nobody's cold counts", c.would(72, 99, 8, 72, 99, 3, 900), -1);
        Check.law(c, "noses");
        Check.is("all of them", c.would(0, 99, 0, 0, 0, 0, 0), 99);
        BreadCity none = new BreadCity();
        Check.is("without QUARTERS and OVENS, 99 at most", none.would(72, 99, 8, 0, 0, 0, 0), 99);
        Check.is("-99 at least", none.would(0, 0, 0, 0, 99, 0, 0), -99);
    }

    private static void ahead() {
        Check.sentence("In n HOURS (0 to 99), nothing else being done: 0 X, 1 Y, 2 how often it ran AGROUND by then, "
            + "3 lit OVENS (bits).");
        BreadCity c = city(EIGHT + "quarter 2 10;city 0 30;flour 99;", "most[least[hour - 96, 1], side / 2] * 10");
        Check.work(c, LIGHT_ALL);
        Check.is("x now", c.ahead(0, 0), 0);
        Check.is("y now", c.ahead(0, 1), 30);
        Check.is("aground now", c.ahead(0, 2), 0);
        Check.is("lit now", c.ahead(0, 3), 255);
        Check.is("lit in 3", c.ahead(3, 3), 255);
        Check.is("lit in 4", c.ahead(4, 3), 0);
        // a cell to the east by HOUR 97, and by 98; 30 hours to the south end, then 69 times
        Check.is("x in 97", c.ahead(97, 0), 0);
        Check.is("x in 98", c.ahead(98, 0), 1);
        Check.is("x in 99", c.ahead(99, 0), 2);
        Check.is("y in 29", c.ahead(29, 1), 1);
        Check.is("y in 30", c.ahead(30, 1), 0);
        Check.is("aground in 30", c.ahead(30, 2), 0);
        Check.is("aground in 31", c.ahead(31, 2), 1);
        Check.is("aground in 99", c.ahead(99, 2), 69);
        Check.work(c, "again 30[hour;];hour;hour;");
        Check.is("aground by now, and in 0", c.ahead(0, 2), 2);
        Check.is("aground by now, and in 1", c.ahead(1, 2), 3);
        BreadCity none = new BreadCity();
        Check.is("without QUARTERS", 100 * none.ahead(99, 0) + none.ahead(99, 1), 1515);
        Check.is("without OVENS", none.ahead(99, 3), 0);
    }

    private static void pilotHours() {
        Check.sentence("that by which, were these lit now, the city lies at it n hours later:");
        BreadCity c = city("quarter 1 10;oven 0 1;oven 0 1;mooring 15 15;mooring 16 15;mooring 19 15;mooring 20 15;flour 9;",
            "least[lit, 1] * 10");
        Check.is("0 hours: where it lies, by none", c.pilot(0, 0), 0);
        Check.is("0 hours: elsewhere", c.pilot(1, 0), -1);
        Check.is("1 hour", c.pilot(1, 1), 1);
        Check.is("2 hours: it went on", c.pilot(1, 2), -1);
        Check.is("3 hours", c.pilot(2, 3), -1);
        Check.is("4 hours", c.pilot(2, 4), 1);
        Check.is("5 hours: it is out, and the city lies there yet", c.pilot(2, 5), 1);
        Check.is("12 hours", c.pilot(2, 12), 1);
        Check.is("a cell more", c.pilot(3, 12), -1);
        Check.is("12 hours, by none", c.pilot(0, 12), 0);
        BreadCity still = city("quarter 1 10;mooring 26 15;mooring 27 15;", "10");
        Check.is("11 hours without OVENS", still.pilot(0, 11), 0);
        Check.is("12 hours without OVENS", still.pilot(1, 12), 0);
        Check.is("12 hours, a cell less", still.pilot(0, 12), -1);
    }

    private static void pilotFlour() {
        Check.sentence("PILOT of a MOORING, n: of all sets of OVENS that are not lit, no more than there is flour,");
        for (int need = 1; need <= 8; need++) {
            int all = (1 << need) - 1;
            for (int flour : new int[] {0, need - 1, need, need + 1, 99}) {
                BreadCity c = city(EIGHT + "mooring 16 15;flour " + flour + ";", "most[least[lit - " + (need - 1) + ", 1], 0] * 10");
                Check.is("by " + need + " OVENS with flour " + flour, c.pilot(0, 1), flour < need ? -1 : all);
            }
        }
        BreadCity c = city(EIGHT + "mooring 16 15;mooring 15 15;flour 0;", "least[lit, 1] * 10");
        Check.is("no flour", c.pilot(0, 1), -1);
        Check.is("none needs no flour", c.pilot(1, 1), 0);
    }

    private static void pilotOfUnlit() {
        Check.sentence("of all sets of OVENS that are not lit,");
        BreadCity c = city("quarter 1 10;oven 0 1;mooring 19 15;mooring 20 15;mooring 23 15;mooring 24 15;flour 9;", "lit * 10");
        Check.work(c, "light 0;hour;hour;hour;");
        Check.is("one hour yet", c.oven(0, 2), 1);
        Check.is("by what is lit", c.pilot(0, 1), 0);
        Check.is("it can't be lit anew", c.pilot(1, 2), -1);
        Check.work(c, "hour;");
        Check.is("out", c.pilot(1, 1), 1);
        Check.is("4 hours anew", c.pilot(2, 4), 1);
        Check.is("and no more", c.pilot(3, 12), -1);
        Check.work(c, "light 0;quench 0;");
        Check.is("quenched", c.pilot(1, 1), 1);
        BreadCity all = city(EIGHT + "mooring 16 15;mooring 18 15;flour 99;", "most[lit - 7, 0] * 10");
        Check.work(all, LIGHT_ALL);
        Check.is("all are lit: by none", all.pilot(0, 1), 0);
        Check.is("all are lit: by none", all.pilot(1, 3), 0);
        Check.work(all, "quench 7;");
        Check.is("the last", all.pilot(0, 1), 128);
    }

    private static void pilotFewest() {
        Check.sentence("the fewest OVENS, of as few the least bits; NONE.");
        BreadCity c = city("quarter 1 10;oven 0 1;oven 0 1;oven 0 2;oven 0 2;mooring 16 15;flour 9;", "least[bread / 2, 1] * 10");
        Check.is("one of 4 ahead of two of 3", c.pilot(0, 1), 4);
        Check.work(c, "light 3;quench 3;light 2;quench 2;");
        Check.is("as before", c.pilot(0, 1), 4);
        BreadCity d = city(EIGHT + "mooring 16 15;flour 99;", "most[least[lit - 3, 1], 0] * 10");
        Check.is("the first four", d.pilot(0, 1), 15);
        Check.work(d, "light 1;");
        Check.is("three of the others", d.pilot(0, 1), 13);
        BreadCity e = city("quarter 1 10;quarter 3 10;oven 1 9;oven 1 9;oven 0 9;mooring 16 15;mooring 14 15;", "bread * 2");
        Check.is("the one to the east", e.pilot(0, 1), 4);
        Check.is("of two to the west the first", e.pilot(1, 1), 1);
        // with the first lit, the one to the west is left out by the one to the east
        Check.work(e, "light 0;");
        Check.is("back east", e.pilot(0, 1), -1);
        Check.is("west, by none", e.pilot(1, 1), 0);
    }

    private static void pilotWays() {
        BreadCity c = city("quarter 0 1;quarter 1 1;quarter 2 1;quarter 3 1;oven 0 1;oven 1 1;oven 2 1;oven 3 1;"
            + "mooring 15 17;mooring 17 15;mooring 15 13;mooring 13 15;mooring 17 17;mooring 13 13;", "lit * 10");
        int[] due = {1, 2, 4, 8, 3, 12};
        for (int m = 0; m < due.length; m++) {
            Check.is("to " + m + " in 2 hours", c.pilot(m, 2), due[m]);
            Check.is("to " + m + " in 3 hours", c.pilot(m, 3), -1);
        }
        Check.book(c, "2 17 17;");
        Check.is("fits", c.fits(0), 1);
        Check.is("the first", c.fits(1), 3);
        Check.book(c, "2 15 15;");
        Check.is("none, or those that stand against one another", c.fits(0), 4);
        Check.is("SURE of none", c.fits(2), 0);
        Check.is("sets at the worst: four at 15 15", Check.book(c, "") + c.look(1), 4);
    }

    /** Onions that are laid in, and colds, are there in the hours ahead, too. */
    private static void pilotAsItStands() {
        BreadCity c = city("quarter 1 20;quarter 3 20;oven 0 1;oven 0 2;mooring 16 15;mooring 14 15;flour 9;",
            "noses + bread * 5 - onions");
        Check.is("by 1", c.pilot(0, 1), 2);
        Check.is("west by none", c.pilot(1, 1), -1);
        Check.work(c, "onions 0 5;");
        Check.is("with onions: by both", c.pilot(0, 1), 3);
        Check.book(c, "1 16 15;");
        Check.is("fits with onions", c.fits(1), 3);
        Check.work(c, "cold 0;onions 0 0;");
        Check.is("with a cold", c.pilot(1, 1), 0);
        Check.is("with a cold", c.pilot(0, 1), -1);
        Check.is("fits with a cold", c.fits(0), 0);
        Check.work(c, "cold 1;");
        Check.is("with both", c.pilot(0, 1), 2);
    }

    private static void pilotWithout() {
        Check.sentence("PILOT by n (0 to 12), as bits.");
        BreadCity c = Check.cityOf("mooring 15 15;mooring 15 16;");
        Check.is("without OVENS, where it lies", c.pilot(0, 12), 0);
        Check.is("without OVENS, elsewhere", c.pilot(1, 12), -1);
        BreadCity reed = city("quarter 1 10;oven 0 1;reed 16 15;mooring 16 15;", "lit * 10");
        Check.is("in a reed it comes to lie never", reed.pilot(0, 1), -1);
        BreadCity there = city("quarter 1 10;oven 0 1;reed 15 15;mooring 15 15;", "lit * 10");
        Check.is("in a reed it lies now", there.pilot(0, 12), 0);
        BreadCity end = city("quarter 1 10;oven 0 1;oven 0 1;city 29 15;mooring 30 15;", "least[lit, 1] * 10");
        Check.is("aground at the end, it lies there", end.pilot(0, 4), 1);
    }

    private static void beyondNineHundred() {
        Check.sentence("HOURS go by as by hour (beyond 900, too).");
        BreadCity c = city("quarter 1 10;oven 0 1;mooring 26 15;flour 9;", "0");
        for (int i = 0; i < 5; i++) {
            Check.is("hours", Check.work(c, "again 30[again 6[hour;];];"), 170);
        }
        Check.is("hours", Check.work(c, "again 30[hour;];again 20[hour;];"), 50);
        // still in HOUR 900, then a cell by each
        Check.law(c, "most[least[hour - 900, 1], 0] * 10");
        Check.is("ahead", c.ahead(12, 0), 26);
        Check.is("pilot", c.pilot(0, 12), 0);
        Check.is("pilot", c.pilot(0, 11), -1);
        Check.book(c, "1 15 15;2 16 15;12 26 15;");
        Check.is("fits", c.fits(0), 2);
        Check.is("look", c.look(0), 3);
        Check.is("wreck", c.wreck(), 17);
        Check.is("season", c.season(1, 0, 12, 0), 26);
        Check.is("span", c.span(1, 20, 0, 12, 2), 20);
        Check.law(c, "hour - 890 - onions");
        Check.is("trim in HOUR 900", c.trim(0), 1);
    }

    private static void trim() {
        Check.sentence("TRIM of a QUARTER: the fewest onions in it (0 to 99, all else as it is) by which both of DRIFT are 0 "
            + "in this hour; NONE.");
        int[] made = {0, 9, 10, 11, 99, 107, 108, 109, 200};
        int[] due = {0, 0, 1, 2, 90, 98, 99, -1, -1};
        for (int d = 0; d < 4; d++) {
            BreadCity c = Check.cityOf("quarter " + d + " 1;");
            for (int i = 0; i < made.length; i++) {
                Check.law(c, made[i] + " - onions");
                Check.is("trim of " + made[i] + " to side " + d, c.trim(0), due[i]);
                Check.law(c, "onions - " + made[i]);
                Check.is("trim of -" + made[i] + " to side " + d, c.trim(0), due[i]);
            }
        }
        BreadCity c = city("quarter 1 1;quarter 3 1;", "hour * 10 - onions");
        Check.is("in HOUR 0", c.trim(0), 0);
        Check.work(c, "hour;hour;hour;onions 1 30;");
        Check.is("in HOUR 3: 30 to the one side, 0 to the other", c.trim(0), 21);
        Check.work(c, "onions 0 50;");
        Check.is("what is there counts not", c.trim(0), 21);
        // -20 to the east, so -11 to the west is enough
        Check.is("the other one as it is", c.trim(1), 41);
        Check.is("nothing stays changed", 100 * c.quarter(0, 3) + c.quarter(1, 3), 5030);
        Check.work(c, "cold 0;");
        Check.law(c, "noses * 20 + 10 - onions");
        Check.is("with its cold", c.trim(0), 1);
    }

    private static void trimBoth() {
        Check.sentence("`int trim(int quarter) throws NoSuchElementException`: TRIM.");
        BreadCity c = city("quarter 1 1;quarter 0 1;quarter 0 1;", "10 - onions");
        Check.is("north goes on", c.trim(0), -1);
        Check.is("east goes on", c.trim(1), -1);
        Check.work(c, "onions 0 1;");
        Check.is("20 to the north: 11 are enough", c.trim(1), 11);
        Check.work(c, "onions 1 10;");
        Check.is("10 to the north by the other", c.trim(2), 1);
        Check.work(c, "onions 2 1;");
        Check.is("it lies still by 1", c.trim(0), 1);
        Check.is("an OVEN in it counts", trimOfOven(), 9);
    }

    private static int trimOfOven() {
        BreadCity c = Check.cityOf("quarter 1 20;oven 0 9;");
        Check.work(c, "light 0;hour;hour;hour;");
        Check.is("in its last hour", c.oven(0, 2), 1);
        int due = c.trim(0);
        Check.work(c, "hour;");
        Check.is("one that is out counts not", c.trim(0), 0);
        return due;
    }

    private static void steps() {
        Check.sentence("STEPS to a MOORING: the fewest cells (east, north, south, west, one by one, none a reed; "
            + "where it lies may be one) from where it lies; NONE (also: it is a reed, and not where it lies).");
        BreadCity c = Check.cityOf("mooring 15 15;mooring 16 15;mooring 15 16;mooring 14 15;mooring 15 14;mooring 16 16;");
        int[] due = {0, 1, 1, 1, 1, 2};
        for (int m = 0; m < due.length; m++) {
            Check.is("steps(" + m + ")", c.steps(m), due[m]);
        }
        BreadCity corners = Check.cityOf("city 0 30;mooring 0 30;mooring 30 0;mooring 0 0;mooring 30 30;");
        int[] far = {0, 60, 30, 30};
        for (int m = 0; m < far.length; m++) {
            Check.is("from a corner " + m, corners.steps(m), far[m]);
        }
        BreadCity reed = Check.cityOf("reed 15 15;reed 16 15;mooring 15 15;mooring 14 15;mooring 16 15;mooring 17 15;");
        Check.is("where it lies, a reed", reed.steps(0), 0);
        Check.is("from a reed", reed.steps(1), 1);
        Check.is("a reed, and not where it lies", reed.steps(2), -1);
        Check.is("round a reed", reed.steps(3), 4);
        int[] dx = {1, 0, -1, 0};
        int[] dy = {0, 1, 0, -1};
        for (int d = 0; d < 4; d++) {
            BreadCity between = Check.cityOf("reed " + (15 + dx[d]) + " " + (15 + dy[d]) + ";reed " + (15 + 3 * dx[d]) + " "
                + (15 + 3 * dy[d]) + ";mooring " + (15 + 2 * dx[d]) + " " + (15 + 2 * dy[d]) + ";");
            Check.is("between two reeds, from both sides at once", between.steps(0), 4);
        }
        Check.sentence("STEPS to a MOORING (0: it lies there).");
        BreadCity moved = city("quarter 1 1;mooring 18 15;mooring 15 15;reed 15 15;", "30");
        Check.is("3 cells", moved.steps(0), 3);
        Check.is("it lies in the reed", moved.steps(1), 0);
        Check.work(moved, "hour;");
        Check.is("it lies there", moved.steps(0), 0);
        Check.is("a reed, where it lies no more", moved.steps(1), -1);
    }

    private static void stepsInTheOpen() {
        for (String from : new String[] {"0 0", "30 0", "0 30", "30 30", "15 15", "1 29"}) {
            int x = Integer.parseInt(from.split(" ")[0]);
            int y = Integer.parseInt(from.split(" ")[1]);
            for (int cell = 0; cell < 961; cell += 3) {
                BreadCity c = Check.cityOf("city " + from + ";mooring " + cell / 31 + " " + cell % 31 + ";");
                Check.is("from " + from + " to " + cell, c.steps(0), Math.abs(cell / 31 - x) + Math.abs(cell % 31 - y));
            }
        }
        StringBuilder wall = new StringBuilder("city 0 0;mooring 30 19;");
        for (int i = 0; i < 12; i++) {
            wall.append("reed ").append(30 - i).append(' ').append(18 + i).append(';');
        }
        // 48 to 18 30, one to 19 30, then 11 east and 11 south behind the reeds
        Check.is("the long way round", Check.cityOf(wall.toString()).steps(0), 71);
    }

    private static void stepsShutIn() {
        String[] beside = {"reed 16 15;", "reed 15 16;", "reed 14 15;", "reed 15 14;"};
        int[] dx = {1, 0, -1, 0};
        int[] dy = {0, 1, 0, -1};
        for (int open = 0; open < 4; open++) {
            StringBuilder bog = new StringBuilder("mooring 3 3;mooring " + (15 + dx[open]) + " " + (15 + dy[open]) + ";");
            for (int d = 0; d < 4; d++) {
                bog.append(d == open ? "" : beside[d]);
            }
            Check.is("one way out", Check.cityOf(bog.toString()).steps(1), 1);
            // 24 apart; by the ways to the east and north it is two more round the reeds
            Check.is("from there", Check.cityOf(bog.toString()).steps(0), dx[open] + dy[open] > 0 ? 26 : 24);
        }
        BreadCity c = Check.cityOf("mooring 16 16;mooring 15 15;" + String.join("", beside));
        Check.is("shut in", c.steps(0), -1);
        Check.is("where it lies", c.steps(1), 0);
        BreadCity there = Check.cityOf("city 3 3;mooring 15 15;mooring 15 17;" + String.join("", beside));
        Check.is("it is shut in", there.steps(0), -1);
        Check.is("behind it", there.steps(1), 26);
    }

    private static void fitsAll() {
        Check.sentence("FITS by BOOK: sets of OVENS that are not lit (no more than there is flour)");
        int[] flours = {0, 1, 2, 3, 4, 5, 6, 7, 8, 9, 99};
        int[] sets = {1, 9, 37, 93, 163, 219, 247, 255, 256, 256, 256};
        for (int i = 0; i < flours.length; i++) {
            BreadCity c = Check.cityOf(EIGHT + "flour " + flours[i] + ";");
            Check.is("no line, flour " + flours[i], c.fits(0), sets[i]);
            Check.is("the first", c.fits(1), 0);
            Check.is("SURE", c.fits(2), 0);
        }
        BreadCity c = Check.cityOf(EIGHT + "flour 99;");
        int many = 256;
        for (int o = 0; o < 8; o++) {
            Check.work(c, "light " + o + ";");
            many = many / 2;
            Check.is("lit to " + o, c.fits(0), many);
        }
        Check.is("all are lit: the set of none", c.fits(0), 1);
        Check.is("the first", c.fits(1), 0);
        Check.is("SURE", c.fits(2), 0);
        Check.is("without OVENS", new BreadCity().fits(0), 1);
        Check.is("without OVENS", new BreadCity().fits(1), 0);
        Check.is("without OVENS", new BreadCity().fits(2), 0);
    }

    private static void fitsLines() {
        Check.sentence("by which, were these lit now, all lines are right:");
        BreadCity c = city("quarter 1 10;oven 0 1;oven 0 1;oven 0 1;flour 9;", "lit * 10");
        String[] books = {"", "1 15 15;", "1 16 15;", "1 17 15;", "1 18 15;", "1 19 15;", "1 16 16;", "4 19 15;", "5 19 15;",
            "12 19 15;", "12 27 15;", "12 28 15;", "1 16 15;2 17 15;3 18 15;4 19 15;5 19 15;12 19 15;",
            "1 16 15;2 17 15;3 18 15;4 19 15;5 19 15;12 20 15;", "12 20 15;1 16 15;", "1 16 15;2 18 15;"};
        int[] due = {8, 1, 3, 3, 1, 0, 0, 3, 3, 3, 1, 0, 3, 0, 0, 0};
        int[] first = {0, 0, 1, 3, 7, -1, -1, 1, 1, 1, 7, -1, 1, -1, -1, -1};
        for (int i = 0; i < books.length; i++) {
            Check.is("lines of <" + books[i] + ">", Check.book(c, books[i]), books[i].length() - books[i].replace(";", "").length());
            Check.is("fits by <" + books[i] + ">", c.fits(0), due[i]);
            Check.is("first by <" + books[i] + ">", c.fits(1), first[i]);
        }
        Check.book(c, "1 16 15;");
        Check.work(c, "light 1;");
        Check.is("with one lit: by none more", c.fits(0), 1);
        Check.is("with one lit: the set of none", c.fits(1), 0);
        Check.work(c, "hour;");
        Check.is("hours later, from now: 17", c.fits(0), 0);
        Check.book(c, "1 17 15;");
        Check.is("hours later, from now", c.fits(0), 1);
    }

    private static void fitsSure() {
        Check.sentence("how many, the first (least bits), SURE: OVENS in all of them.");
        BreadCity c = city("quarter 1 10;oven 0 1;oven 0 2;oven 0 4;flour 9;", "bread / 4 * 10");
        Check.book(c, "1 16 15;");
        Check.is("4, 5, 6, 7", c.fits(0), 4);
        Check.is("the first", c.fits(1), 4);
        Check.is("SURE", c.fits(2), 4);
        Check.law(c, "bread / 7 * 10");
        Check.is("7", c.fits(0), 1);
        Check.is("the first", c.fits(1), 7);
        Check.is("SURE", c.fits(2), 7);
        Check.law(c, "bread / 3 % 2 * 10");
        Check.is("3, 4, 5", c.fits(0), 3);
        Check.is("the first", c.fits(1), 3);
        Check.is("SURE of none", c.fits(2), 0);
        Check.law(c, "least[bread / 5, 1] * 10");
        Check.is("5, 6, 7", c.fits(0), 3);
        Check.is("the first", c.fits(1), 5);
        Check.is("SURE of the last", c.fits(2), 4);
        Check.law(c, "0");
        Check.sentence("FITS: 0 how many sets, 1 the first (NONE), 2 SURE (bits; 0 without).");
        Check.is("none", c.fits(0), 0);
        Check.is("no first", c.fits(1), -1);
        Check.is("SURE without", c.fits(2), 0);
        BreadCity all = city(EIGHT + "flour 8;", "most[lit - 7, 0] * 10");
        Check.book(all, "1 16 15;");
        Check.is("all eight", all.fits(0), 1);
        Check.is("the first", all.fits(1), 255);
        Check.is("SURE", all.fits(2), 255);
        BreadCity less = city(EIGHT + "flour 7;", "most[lit - 7, 0] * 10");
        Check.book(less, "1 16 15;");
        Check.is("flour for seven", less.fits(0), 0);
    }

    private static void look() {
        Check.sentence("LOOK: the hour (1 to 12) in no line by which, wherever it lies then, fewest such sets are left "
            + "at the worst, of these the first.");
        for (int hour = 1; hour <= 4; hour++) {
            // the OVEN moves it in this hour alone
            BreadCity c = city("quarter 1 10;oven 0 1;", "most[1 - most[hour - " + (hour - 1) + ", " + (hour - 1) + " - hour], 0]"
                + " * lit * 10");
            Check.is("moved by hour " + hour, c.look(0), hour);
            Check.is("left", c.look(1), 1);
            Check.book(c, hour + " 15 15;");
            Check.is("one set is left: the first hour in no line", c.look(0), hour == 1 ? 2 : 1);
            Check.is("left", c.look(1), 1);
            Check.book(c, hour + " 17 15;");
            Check.is("no set is left: the first hour in no line", c.look(0), hour == 1 ? 2 : 1);
            Check.is("left", c.look(1), 0);
        }
        Check.is("without OVENS", new BreadCity().look(0), 1);
        Check.is("without OVENS", new BreadCity().look(1), 1);
        BreadCity all = city(EIGHT + "flour 99;", "0");
        Check.is("all alike", all.look(0), 1);
        Check.is("left of eight", all.look(1), 256);
        BreadCity none = city(EIGHT + "flour 0;", "lit * 10");
        Check.is("no flour", none.look(1), 1);
        for (String place : new String[] {"0 0", "0 30", "30 0", "30 30"}) {
            BreadCity corner = city("quarter 1 1;oven 0 1;oven 0 1;oven 0 1;city " + place + ";", "0");
            Check.is("all alike at " + place, corner.look(1), 8);
        }
    }

    private static void lookLines() {
        // they lie apart in every hour: whatever is told leaves one
        BreadCity c = city("quarter 1 10;quarter 0 10;oven 0 1;oven 1 1;", "lit * 10");
        String book = "";
        for (int h = 1; h <= 6; h++) {
            Check.is("in no line of <" + book + ">", c.look(0), h);
            Check.is("left", c.look(1), 1);
            book = book + h + " " + (15 + Math.min(h, 4)) + " 15;";
            Check.is("lines", Check.book(c, book), h);
            Check.is("fits by <" + book + ">", c.fits(1), 1);
        }
        Check.is("six lines: the 7th", c.look(0), 7);
        Check.book(c, "2 17 15;");
        Check.is("ahead of the line", c.look(0), 1);
        Check.book(c, "1 15 15;3 15 15;12 15 15;");
        Check.is("between the lines", c.look(0), 2);
    }

    private static void lookAlike() {
        BreadCity c = city("quarter 1 10;oven 0 1;oven 0 2;oven 0 2;flour 9;", "bread * 5");
        // bread of the sets is 0 1 2 2 3 3 4 5: by 0 0 1 1 1 1 2 2 cells in each hour
        Check.is("the first hour", c.look(0), 1);
        Check.is("left at the worst", c.look(1), 4);
        Check.law(c, "bread * (5 + most[least[hour, 1], 0] * 5)");
        // in the second hour by 0 1 2 2 3 3 3 3 more: 0 1 3 3 4 4 5 5
        Check.is("the second hour tells more", c.look(0), 2);
        Check.is("left at the worst", c.look(1), 2);
        // at the end of the bog it comes to lie alike: the first hour is the best one
        BreadCity end = city("quarter 1 10;oven 0 1;oven 0 2;city 27 15;", "bread * 10");
        Check.is("apart in the first", end.look(0), 1);
        Check.is("left", end.look(1), 1);
        Check.book(end, "1 30 15;");
        Check.is("one is left", end.fits(0), 1);
        BreadCity shut = city("quarter 1 10;oven 0 1;oven 0 2;city 29 15;", "bread * 10");
        // 30 by all but none, in every hour
        Check.is("the first", shut.look(0), 1);
        Check.is("three are left", shut.look(1), 3);
        Check.sentence("LOOK: 0 the hour, 1 how many sets are left at the worst.");
        Check.book(shut, "1 30 15;");
        Check.is("three are left", shut.look(1), 3);
        Check.is("the second", shut.look(0), 2);
    }

    private static void wreck() {
        Check.sentence("In how many HOURS (1 to 200), nothing else being done, it runs AGROUND the next time; NONE.");
        for (int first : new int[] {1, 2, 100, 199, 200, 201, 202}) {
            BreadCity c = city("quarter 1 1;city 30 15;", "most[least[hour + 2 - " + first + ", 1], 0] * 10");
            Check.is("in HOUR " + (first - 1), c.wreck(), first <= 200 ? first : -1);
        }
        BreadCity c = city("quarter 1 1;quarter 0 1;city 30 28;", "10 - side * 10");
        Check.is("two cells, then", c.wreck(), 3);
        Check.work(c, "hour;hour;hour;hour;");
        Check.is("it ran aground", c.told(8), 2);
        Check.is("the next time", c.wreck(), 1);
        Check.law(c, "0");
        Check.is("not a next time", c.wreck(), -1);
        Check.is("what was stays", c.told(8), 2);
        BreadCity lit = Check.cityOf("quarter 1 20;oven 0 5;city 27 15;flour 9;");
        Check.work(lit, "light 0;");
        Check.is("by an OVEN's fourth hour", lit.wreck(), 4);
        Check.work(lit, "hour;quench 0;");
        Check.is("without", lit.wreck(), -1);
        Check.is("without QUARTERS", new BreadCity().wreck(), -1);
    }
}
