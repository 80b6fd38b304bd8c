/** A test for each promise of the document, by its number: ordinary inputs, the edges it names, wrong inputs. */
public final class PromiseTests {
    /** Three quarters (east 20, west 10, north 30), four ovens (5 and 3 in the first, 4, 2), flour 3. */
    private static final String BOG = "quarter 1 20;quarter 3 10;quarter 0 30;oven 0 5;oven 1 4;oven 2 2;oven 0 3;"
        + "reed 17 15;mooring 16 15;mooring 15 17;city 15 15;flour 3;";

    public static void main(String[] args) {
        newObject();
        feed();
        bog();
        bogForgets();
        law();
        lawValues();
        work();
        workRefuses();
        workAgain();
        workLimits();
        hours();
        aground();
        book();
        fault();
        undo();
        told();
        quarter();
        oven();
        mooring();
        reed();
        drift();
        would();
        ahead();
        pilot();
        trim();
        steps();
        fits();
        look();
        gusts();
        bakers();
        sacks();
        leaguesAndKey();
        nearest();
        sweetest();
        heaviest();
        side();
        room();
        wreck();
        cool();
        safe();
        season();
        span();
        imageAndRestore();
        status();
        count();
        Check.end("PromiseTests");
    }

    // Promise 1
    private static void newObject() {
        BreadCity c = new BreadCity();
        int[] due = {0, 0, 0, 0, 0, 15, 15, 9, 0, 0, 0, 0};
        for (int i = 0; i < due.length; i++) {
            Check.is("new told(" + i + ")", c.told(i), due[i]);
        }
        Check.is("new fault", c.fault(), -1);
        Check.is("new undo", c.undo(), -1);
        Check.is("new restore", c.restore(), -1);
        Check.is("new images", c.count(0), 0);
        Check.is("new tape", c.count(1), 0);
        Check.is("new works", c.count(2), 0);
        Check.is("new status 0", c.status(0), 0);
        Check.is("new status 1", c.status(1), 0);
        Check.is("new law", c.would(7, 30, 0, 0, 2, 0, 0), 19);
        Check.is("NONE", BreadCity.NONE, -1);
    }

    // Promise 2
    private static void feed() {
        BreadCity c = new BreadCity();
        // "flour 42; " and ten blanks
        Check.is("feed", c.feed(0x666c6f75, 0x72203432, 0x3b202020, 0x20202020, 0x20202020), 20);
        Check.is("bog", c.bog(20), 0);
        Check.is("flour by fed bytes", c.told(7), 42);
        for (int i = 1; i <= 30; i++) {
            Check.is("feed " + i, c.feed(-1, 0x80000000, 0, 1, 255), 20 * i);
        }
        Check.is("feed beyond 600", c.feed(0, 0, 0, 0, 0), -1);
        Check.is("tape stays", c.count(1), 600);
        Check.is("bytes above 127 are faults", c.bog(600), -9);
        Check.is("tape is empty", c.count(1), 0);
        Check.is("feed anew", c.feed(0, 0, 0, 0, 0), 20);
    }

    // Promise 3
    private static void bog() {
        BreadCity c = new BreadCity();
        Check.is("bog", Check.bog(c, BOG), 4);
        Check.is("fault", c.fault(), -1);
        int[] due = {3, 4, 1, 2, 0, 15, 15, 3, 0, 0, 0, 0};
        for (int i = 0; i < due.length; i++) {
            Check.is("told(" + i + ")", c.told(i), due[i]);
        }
        Check.is("a faulty bog", Check.bog(c, "city 3 4;quarter 2 2;oven 0 0;"), -8);
        Check.is("all stays: ovens", c.told(1), 4);
        Check.is("all stays: x", c.told(5), 15);
        Check.is("all stays: side", c.quarter(0, 0), 1);
        Check.is("all stays: reed", c.reed(17, 15), 1);
        Check.is("the last city and flour count", Check.bog(c, "city 1 2;flour 5;city 3 4;flour 6;"), 0);
        Check.is("x", c.told(5), 3);
        Check.is("y", c.told(6), 4);
        Check.is("flour", c.told(7), 6);
        Check.is("no reed of the bog before", c.reed(17, 15), 0);
        Check.is("first bytes only", c.bog(Check.tell(c, "flour 8;flour 7;") - 8), 0);
        Check.is("flour of the first bytes", c.told(7), 8);
        Check.tell(c, "flour 1;");
        Check.unfit("bog beyond the tape", () -> c.bog(21));
        Check.unfit("bog(-1)", () -> c.bog(-1));
        Check.is("tape stays", c.count(1), 20);
        Check.is("bog of it", c.bog(8), 0);
        Check.unfit("the tape is empty", () -> c.bog(1));
        Check.is("bog of nothing", c.bog(0), 0);
        Check.is("flour without", c.told(7), 9);
        String full = "reed 0 0;".repeat(12) + "city 10 10;".repeat(44);
        Check.is("bog of 600 bytes", Check.bog(c, full + " ".repeat(600 - full.length())), 0);
    }

    private static void bogForgets() {
        BreadCity c = Check.cityOf(BOG);
        Check.law(c, "8");
        Check.book(c, "1 0 0;2 0 0;");
        Check.work(c, "light 0;light 0;cold 0;onions 0 9;hour;");
        c.image();
        Check.is("refused ahead", c.told(10), 1);
        Check.is("a faulty bog", Check.bog(c, "x"), -9);
        Check.is("works stay", c.count(2), 1);
        Check.is("images stay", c.count(0), 1);
        Check.is("lines stay", c.told(9), 2);
        Check.is("law stays", c.would(0, 0, 0, 0, 0, 0, 0), 8);
        Check.is("refused stays", c.told(10), 1);
        Check.is("bog again", Check.bog(c, BOG), 4);
        Check.is("no works", c.count(2), 0);
        Check.is("no images", c.count(0), 0);
        Check.is("no lines", c.told(9), 0);
        Check.is("no line counts", c.fits(0), 15);
        Check.is("the first law", c.would(5, 20, 0, 0, 3, 0, 0), 7);
        Check.is("refused", c.told(10), 0);
        Check.is("hour", c.told(4), 0);
        Check.is("lit", c.told(11), 0);
        Check.is("how often lit", c.oven(0, 3), 0);
        Check.is("onions", c.quarter(0, 3), 0);
        Check.is("cold", c.quarter(0, 4), 0);
        Check.is("flour", c.told(7), 3);
        Check.is("undo", c.undo(), -1);
        Check.is("restore", c.restore(), -1);
        BreadCity d = Check.cityOf("quarter 0 9;quarter 3 40;mooring 16 16;mooring 15 15;reed 15 0;reed 3 30;");
        Check.law(d, "50");
        Check.work(d, "again 9[hour;];");
        Check.report(d.told(8) > 0, "it ran aground");
        Check.is("a smaller bog", Check.bog(d, "quarter 0 3;mooring 2 2;"), 0);
        Check.is("aground", d.told(8), 0);
        Check.is("no quarter of before counts", d.heaviest(1), 3);
        Check.is("no mooring of before is safe", d.safe(), 1);
        Check.is("no mooring of before is near", d.nearest(0), 0);
        Check.is("no mooring of before is come to", d.span(1, 1, 0, 1, 2), 0);
        Check.is("no reed of before", d.reed(15, 0) + d.reed(3, 30), 0);
        Check.is("a faulty text is no bog", Check.bog(d, "mooring 9 9;reed 9 0;mooring 7 7;reed 9"), -9);
        Check.is("and the next has nothing of it", Check.bog(d, "mooring 2 2;") + d.told(2) + d.told(3), 1);
        Check.is("no reed of it", d.reed(9, 0), 0);
    }

    // Promise 4
    private static void law() {
        BreadCity c = Check.cityOf(BOG);
        Check.work(c, "hour;");
        Check.is("law", Check.law(c, "bread + 1"), 1);
        Check.is("would", c.would(5, 0, 0, 0, 0, 0, 0), 6);
        Check.is("works stay", c.count(2), 1);
        Check.is("a faulty law", Check.law(c, "bread + 2 +"), -9);
        Check.is("the law stays", c.would(5, 0, 0, 0, 0, 0, 0), 6);
        String sum = "1+".repeat(74) + "22";
        Check.is("a law of 150 bytes", Check.law(c, sum), 1);
        Check.is("its value", c.would(0, 0, 0, 0, 0, 0, 0), 96);
        Check.tell(c, sum + " 2");
        Check.unfit("law(151)", () -> c.law(151));
        Check.unfit("law(-1)", () -> c.law(-1));
        Check.is("tape stays", c.count(1), 160);
        Check.is("law(149)", c.law(149), 1);
        Check.is("its value", c.would(0, 0, 0, 0, 0, 0, 0), 76);
        Check.tell(c, "7");
        Check.unfit("law beyond the tape", () -> c.law(21));
    }

    private static void lawValues() {
        value("1 + 2 * 3", 7);
        value("(1 + 2) * 3", 9);
        value("9 - 3 - 2", 4);
        value("40 / 3 / 2", 6);
        value("40 / 3 * 2", 26);
        value("40 % 7 * 2", 10);
        value("2 * 40 % 7", 3);
        value("(0 - 7) / 2", -3);
        value("(0 - 7) % 2", -1);
        value("7 % (0 - 2)", 1);
        value("7 / (0 - 2)", -3);
        value("7 / 0", 0);
        value("7 % 0", 0);
        value("999", 99);
        value("0 - 999", -99);
        value("100", 99);
        value("0 - 100", -99);
        value("least[3, 4] * 10 + most[3, 4]", 34);
        value("least[4, 3] * 10 + most[4, 3]", 34);
        value("most[0 - 5, 0 - 6]", -5);
        value("least[0 - 5, 0 - 6]", -6);
        // 2,000,000,000 and 2,000,000,000 wrap to -294,967,296; by 10,000,000 that is -29
        value("(500*500*500*16+500*500*500*16)/(100*100*100*10)", -29);
        // 65536 times 65536 is 0, times 32768 it is the least number, which by -1 stays itself
        value("256*256*256*256", 0);
        value("256*256*256*128/(0-1)", -99);
        value("256*256*256*128%(0-1)", 0);
        value("256*256*256*128-1", 99);
        BreadCity c = new BreadCity();
        Check.law(c, "bread * 1 + noses * 3 - lit * 5 + others * 2 - onions + side * 4 - hour");
        Check.is("facts", c.would(11, 13, 2, 7, 9, 3, 20), 11 + 39 - 10 + 14 - 9 + 12 - 20);
    }

    private static void value(String law, int due) {
        BreadCity c = new BreadCity();
        Check.is("law " + law, Check.law(c, law), 1);
        Check.is("value of " + law, c.would(1, 1, 1, 1, 1, 1, 1), due);
    }

    // Promise 5
    private static void work() {
        BreadCity c = Check.cityOf(BOG);
        Check.is("work", Check.work(c, "light 0;light 0;light 2;onions 1 20;hour;light 1;light 3;cold 0;hour;"), 7);
        int[] due = {3, 4, 1, 2, 2, 16, 15, 0, 2, 0, 2, 7};
        for (int i = 0; i < due.length; i++) {
            Check.is("told(" + i + ")", c.told(i), due[i]);
        }
        Check.is("a faulty work", Check.work(c, "hour;cold 0;hour"), -9);
        Check.is("none is done: hour", c.told(4), 2);
        Check.is("none is done: cold", c.quarter(0, 4), 1);
        Check.is("refused stays", c.told(10), 2);
        Check.is("works", c.count(2), 1);
        Check.is("work of nothing", c.work(0), 0);
        Check.is("it counts", c.count(2), 2);
        Check.is("refused by it", c.told(10), 0);
        Check.tell(c, " ".repeat(151));
        Check.unfit("work(151)", () -> c.work(151));
        Check.unfit("work(-1)", () -> c.work(-1));
        Check.is("tape stays", c.count(1), 160);
        Check.is("work(150)", c.work(150), 0);
        Check.unfit("work beyond the tape", () -> c.work(1));
    }

    private static void workRefuses() {
        BreadCity c = Check.cityOf("quarter 0 9;oven 0 1;oven 0 2;flour 1;");
        Check.is("quench what is not lit", Check.work(c, "quench 0;"), 0);
        Check.is("refused", c.told(10), 1);
        Check.is("onions that are there", Check.work(c, "onions 0 0;onions 0 5;onions 0 5;onions 0 6;"), 2);
        Check.is("refused", c.told(10), 2);
        Check.is("onions", c.quarter(0, 3), 6);
        Check.is("lit and no flour", Check.work(c, "light 0;light 0;light 1;"), 1);
        Check.is("refused", c.told(10), 2);
        Check.is("flour", c.told(7), 0);
        Check.is("how often lit", c.oven(0, 3), 1);
        Check.is("never lit", c.oven(1, 3), 0);
        Check.is("quench, no flour comes back", Check.work(c, "quench 0;quench 0;light 0;"), 1);
        Check.is("refused", c.told(10), 2);
        Check.is("flour", c.told(7), 0);
        Check.is("lit", c.told(11), 0);
        Check.is("cold and no more", Check.work(c, "cold 0;cold 0;cold 0;"), 3);
        Check.is("cold", c.quarter(0, 4), 1);
    }

    private static void workAgain() {
        BreadCity c = Check.cityOf(BOG);
        Check.is("again", Check.work(c, "again 3[hour;again 2[cold 0;];];"), 9);
        Check.is("hour", c.told(4), 3);
        Check.is("cold", c.quarter(0, 4), 0);
        Check.is("again 0", Check.work(c, "again 0[hour;];cold 1;"), 1);
        Check.is("hour", c.told(4), 3);
        Check.is("again with refusals", Check.work(c, "again 5[light 0;];again 2[];"), 1);
        Check.is("refused", c.told(10), 4);
    }

    private static void workLimits() {
        BreadCity c = Check.cityOf(BOG);
        // 30 times (an again and 30 hours): the first again is one, six are 6 of 31, then again and 12 hours
        Check.is("200 begun", Check.work(c, "again 30[again 30[hour;];];"), 192);
        Check.is("hour", c.told(4), 192);
        // 1 again, then 22 times 9 (an again, 4 done, 4 refused), then one more again: the rest is left out
        Check.is("refused ones are begun", Check.work(c, "again 30[again 4[hour;quench 0;];];cold 0;"), 88);
        Check.is("refused", c.told(10), 88);
        Check.is("behind the 200", c.quarter(0, 4), 0);
        Check.is("just 200", Check.work(c, "again 28[again 2[cold 0;cold 0;cold 0;];];again 1[];cold 1;"), 168 + 1);
        Check.is("just within", c.quarter(1, 4), 1);
        Check.is("agains alone", Check.work(c, "again 30[again 30[again 30[];];];cold 2;"), 0);
        Check.is("behind the 200", c.quarter(2, 4), 0);
        for (int i = c.count(2); i < 16; i++) {
            Check.is("work " + i, Check.work(c, "cold 0;"), 1);
        }
        Check.is("a fault ahead", Check.bog(c, "x"), -9);
        Check.is("a 17th work", Check.work(c, "cold 0;"), -20);
        Check.is("no fault", c.fault(), -1);
        Check.is("tape is empty", c.count(1), 0);
        Check.is("works", c.count(2), 16);
        Check.is("a faulty 17th", Check.work(c, "x"), -20);
        Check.is("no fault", c.fault(), -1);
        Check.unfit("wrong n ahead of -20", () -> c.work(1));
        Check.is("undo", c.undo(), 15);
        Check.is("room for one", Check.work(c, "hour;"), 1);
    }

    private static void hours() {
        BreadCity c = Check.cityOf("quarter 1 1;");
        for (int i = 0; i < 5; i++) {
            Check.is("hours", Check.work(c, "again 30[again 6[hour;];];"), 170);
        }
        Check.is("hour", c.told(4), 850);
        Check.is("hours to 900", Check.work(c, "again 30[hour;];again 25[hour;];"), 50);
        Check.is("refused from 900 on", c.told(10), 5);
        Check.is("hour", c.told(4), 900);
        Check.law(c, "hour - 890");
        Check.is("drift at 900", c.drift(0), 1);
        Check.is("hours ahead of 900 go by", c.ahead(3, 0), 18);
        Check.is("the law's hour goes on: 10, 11, .. 19 are 1, 20 .. 29 are 2", c.ahead(11, 0), 27);
        BreadCity d = Check.cityOf("quarter 1 10;oven 0 1;oven 0 2;");
        Check.work(d, "light 0;hour;hour;light 1;");
        Check.is("lit yet", d.oven(0, 2), 2);
        Check.is("lit yet", d.oven(1, 2), 4);
        Check.work(d, "hour;hour;");
        Check.is("out", d.oven(0, 2), 0);
        Check.is("lit yet", d.oven(1, 2), 2);
        Check.is("bits", d.told(11), 2);
        Check.work(d, "light 0;");
        Check.is("twice lit", d.oven(0, 3), 2);
    }

    private static void aground() {
        BreadCity c = Check.cityOf("quarter 1 99;quarter 2 99;oven 0 9;oven 1 5;city 28 2;");
        Check.is("work", Check.work(c, "light 0;light 1;hour;"), 3);
        Check.is("x at the end", c.told(5), 30);
        Check.is("y at the end", c.told(6), 0);
        Check.is("aground by both", c.told(8), 2);
        BreadCity d = Check.cityOf("quarter 1 30;quarter 0 30;oven 0 9;oven 1 9;reed 16 18;reed 18 17;");
        // 27 by 10 is 2 east, then 2 north along x 17
        Check.work(d, "light 0;light 1;hour;");
        Check.is("x", d.told(5), 17);
        Check.is("y", d.told(6), 17);
        Check.is("aground", d.told(8), 0);
        // now 18 17 is a reed: no step east, two north
        Check.work(d, "hour;");
        Check.is("x stays", d.told(5), 17);
        Check.is("y goes on", d.told(6), 19);
        Check.is("aground once", d.told(8), 1);
        BreadCity e = Check.cityOf("quarter 3 30;oven 0 9;reed 15 15;reed 12 15;");
        Check.work(e, "light 0;hour;hour;");
        Check.is("out of a reed, then ahead of one", e.told(5), 13);
        Check.is("aground by the second hour", e.told(8), 1);
    }

    // Promise 6
    private static void book() {
        BreadCity c = Check.cityOf(BOG);
        Check.is("book", Check.book(c, "1 16 15;12 16 15;"), 2);
        Check.is("lines", c.told(9), 2);
        Check.is("a faulty book", Check.book(c, "1 0 0;1 0 0;"), -8);
        Check.is("lines stay", c.told(9), 2);
        Check.is("fits stay", c.fits(0), 5);
        Check.is("book of nothing", c.book(0), 0);
        Check.is("lines", c.told(9), 0);
        Check.is("any set fits", c.fits(0), 15);
        Check.tell(c, "1 16 15;" + " ".repeat(53));
        Check.unfit("book(61)", () -> c.book(61));
        Check.unfit("book(-1)", () -> c.book(-1));
        Check.is("tape stays", c.count(1), 80);
        Check.is("book(60)", c.book(60), 1);
        Check.unfit("book beyond the tape", () -> c.book(1));
    }

    // Promise 7
    private static void fault() {
        BreadCity c = Check.cityOf(BOG);
        Check.is("none", c.fault(), -1);
        Check.law(c, "1 + x");
        Check.is("place", c.fault(), 4);
        Check.unfit("law(9)", () -> c.law(9));
        Check.is("no text was read", c.fault(), 4);
        Check.work(c, "hour;hour");
        Check.is("place at the length", c.fault(), 9);
        Check.book(c, "1 1 1;");
        Check.is("none by a sound text", c.fault(), -1);
        Check.book(c, "1 1 1; 2 40 1;");
        Check.is("place", c.fault(), 9);
        c.undo();
        c.image();
        c.restore();
        Check.is("place of the latest text yet", c.fault(), 9);
    }

    // Promise 8
    private static void undo() {
        BreadCity c = Check.cityOf(BOG);
        Check.work(c, "light 0;hour;light 0;");
        Check.work(c, "onions 0 7;cold 1;cold 2;light 1;hour;quench 0;quench 0;hour;hour;hour;");
        Check.is("hour", c.told(4), 5);
        Check.is("refused ahead of undo", c.told(10), 1);
        Check.is("sets ahead of undo", c.fits(0), 5);
        Check.is("undo", c.undo(), 1);
        Check.is("sets behind undo", c.fits(0), 7);
        Check.is("hour", c.told(4), 1);
        Check.is("onions", c.quarter(0, 3), 0);
        Check.is("cold", c.quarter(1, 4), 0);
        Check.is("flour", c.told(7), 2);
        Check.is("lit", c.oven(0, 2), 3);
        Check.is("never lit", c.oven(1, 3), 0);
        Check.is("x", c.told(5), 16);
        Check.is("refused behind undo", c.told(10), 0);
        Check.is("undo", c.undo(), 0);
        Check.is("x", c.told(5), 15);
        Check.is("flour", c.told(7), 3);
        Check.is("lit", c.told(11), 0);
        Check.is("aground", c.told(8), 0);
        Check.is("hour", c.told(4), 0);
        Check.is("undo", c.undo(), -1);
        Check.work(c, "hour;");
        Check.law(c, "7");
        Check.is("undo", c.undo(), 0);
        Check.is("undo leaves a law", c.would(0, 0, 0, 0, 0, 0, 0), 7);
        everythingComesBack();
    }

    /** Each thing that WORK changes has a value of its own, and comes back by undo() and by restore(). */
    private static void everythingComesBack() {
        BreadCity c = Check.cityOf("quarter 0 30;quarter 3 30;oven 0 9;oven 1 9;oven 0 1;flour 50;city 20 3;reed 18 4;");
        Check.work(c, "again 6[light 0;light 1;light 2;quench 2;hour;];cold 1;onions 0 3;onions 1 2;");
        int[] before = everything(c);
        Check.is("aground by the reed", c.told(8), 1);
        Check.work(c, "again 9[light 0;light 1;light 2;hour;];cold 0;cold 1;onions 0 30;onions 1 40;quench 1;");
        int changed = 0;
        int[] between = everything(c);
        for (int i = 0; i < before.length; i++) {
            changed += before[i] == between[i] ? 0 : 1;
        }
        Check.is("what changed", changed, before.length);
        c.undo();
        same("undo", c, before);
        c.image();
        Check.work(c, "again 9[light 0;light 1;light 2;hour;];cold 0;cold 1;onions 0 30;onions 1 40;quench 1;");
        c.restore();
        same("restore", c, before);
    }

    private static int[] everything(BreadCity c) {
        return new int[] {c.told(4), c.told(5), c.told(6), c.told(7), c.told(8), c.oven(0, 2), c.oven(1, 2), c.oven(2, 2),
            c.oven(0, 3), c.oven(1, 3), c.oven(2, 3), c.quarter(0, 3), c.quarter(1, 3), c.quarter(0, 4), c.quarter(1, 4)};
    }

    private static void same(String by, BreadCity c, int[] due) {
        int[] have = everything(c);
        for (int i = 0; i < due.length; i++) {
            Check.is("thing " + i + " by " + by, have[i], due[i]);
        }
    }

    // Promise 9
    private static void told() {
        BreadCity c = Check.cityOf(BOG + "reed 17 15;");
        Check.is("a reed told twice", c.told(2), 2);
        Check.unfit("told(-1)", () -> c.told(-1));
        Check.unfit("told(12)", () -> c.told(12));
        Check.work(c, "light 3;light 1;quench 0;");
        Check.is("bits", c.told(11), 10);
        Check.is("refused", c.told(10), 1);
        c.image();
        c.restore();
        Check.is("refused behind restore", c.told(10), 0);
        lastHour();
    }

    /** An OVEN is lit in its last hour, too. */
    private static void lastHour() {
        BreadCity c = Check.cityOf("quarter 1 30;quarter 0 10;oven 0 9;flour 1;");
        Check.work(c, "light 0;hour;hour;hour;");
        Check.is("yet", c.oven(0, 2), 1);
        Check.is("lit", c.told(11), 1);
        Check.is("cool", c.cool(0), 0);
        Check.is("bread", c.quarter(0, 2), 9);
        Check.is("lean", c.quarter(0, 5), 27);
        Check.is("drift", c.drift(0), 2);
        Check.is("side", c.side(1), 27);
        Check.is("sweetest", c.sweetest(1), 27);
        Check.is("trim", c.trim(0), 18);
        Check.is("ahead", c.ahead(0, 3), 1);
        Check.is("ahead", c.ahead(1, 3), 0);
        Check.is("quench", Check.work(c, "quench 0;"), 1);
        Check.is("sweetest is the first", c.sweetest(0) + c.sweetest(1), 0);
    }

    // Promise 10
    private static void quarter() {
        BreadCity c = Check.cityOf(BOG);
        Check.work(c, "light 0;light 3;light 1;onions 0 4;cold 0;");
        int[] first = {1, 20, 8, 4, 1, 4, 9};
        int[] second = {3, 10, 4, 0, 0, 4, 2};
        int[] third = {0, 30, 0, 0, 0, 0, 4};
        for (int i = 0; i < 7; i++) {
            Check.is("quarter(0, " + i + ")", c.quarter(0, i), first[i]);
            Check.is("quarter(1, " + i + ")", c.quarter(1, i), second[i]);
            Check.is("quarter(2, " + i + ")", c.quarter(2, i), third[i]);
        }
        Check.unfit("quarter(0, 7)", () -> c.quarter(0, 7));
        Check.unfit("quarter(2, -1)", () -> c.quarter(2, -1));
        Check.missing("quarter(3, 0)", () -> c.quarter(3, 0));
        Check.missing("quarter(-1, 0)", () -> c.quarter(-1, 0));
        Check.missing("quarter(3, 7)", () -> c.quarter(3, 7));
        Check.law(c, "lit * 10 + others");
        Check.is("lit and others", c.quarter(0, 5), 24);
        Check.is("lit and others", c.quarter(1, 5), 18);
        Check.is("lit and others", c.quarter(2, 5), 12);
        BreadCity d = Check.cityOf("quarter 0 99;quarter 0 1;");
        Check.law(d, "noses");
        Check.work(d, "cold 0;cold 1;");
        Check.is("half of 99, cut", d.quarter(0, 5), 49);
        Check.is("half of 1, cut", d.quarter(1, 5), 0);
        Check.is("noses as told", d.quarter(0, 1), 99);
    }

    // Promise 11
    private static void oven() {
        BreadCity c = Check.cityOf(BOG);
        Check.work(c, "light 3;hour;quench 3;light 3;hour;");
        int[] last = {0, 3, 3, 2};
        int[] second = {1, 4, 0, 0};
        for (int i = 0; i < 4; i++) {
            Check.is("oven(3, " + i + ")", c.oven(3, i), last[i]);
            Check.is("oven(1, " + i + ")", c.oven(1, i), second[i]);
        }
        Check.unfit("oven(0, 4)", () -> c.oven(0, 4));
        Check.unfit("oven(0, -1)", () -> c.oven(0, -1));
        Check.missing("oven(4, 0)", () -> c.oven(4, 0));
        Check.missing("oven(-1, 9)", () -> c.oven(-1, 9));
    }

    // Promise 12
    private static void mooring() {
        BreadCity c = Check.cityOf("mooring 3 20;mooring 30 0;city 10 12;");
        int[] first = {3, 20, 15};
        int[] second = {30, 0, 32};
        for (int i = 0; i < 3; i++) {
            Check.is("mooring(0, " + i + ")", c.mooring(0, i), first[i]);
            Check.is("mooring(1, " + i + ")", c.mooring(1, i), second[i]);
        }
        Check.unfit("mooring(0, 3)", () -> c.mooring(0, 3));
        Check.unfit("mooring(0, -1)", () -> c.mooring(0, -1));
        Check.missing("mooring(2, 0)", () -> c.mooring(2, 0));
        Check.missing("mooring(-1, 3)", () -> c.mooring(-1, 3));
    }

    // Promise 13
    private static void reed() {
        BreadCity c = Check.cityOf("reed 0 30;reed 30 0;reed 7 8;reed 7 8;reed 30 30;");
        Check.is("reed", c.reed(0, 30), 1);
        Check.is("reed", c.reed(30, 0), 1);
        Check.is("reed", c.reed(30, 30), 1);
        Check.is("reed", c.reed(7, 8), 1);
        Check.is("no reed", c.reed(8, 7), 0);
        Check.is("no reed", c.reed(0, 0), 0);
        Check.unfit("reed(31, 0)", () -> c.reed(31, 0));
        Check.unfit("reed(0, 31)", () -> c.reed(0, 31));
        Check.unfit("reed(-1, 0)", () -> c.reed(-1, 0));
        Check.unfit("reed(0, -1)", () -> c.reed(0, -1));
    }

    // Promise 14
    private static void drift() {
        BreadCity c = Check.cityOf("quarter 0 10;quarter 1 10;quarter 2 10;quarter 3 10;reed 16 15;");
        drift(c, "least[side, 1] * 10", 0, -1);
        drift(c, "(3 - side) * 8", 1, 1);
        drift(c, "side * 9", -1, -1);
        drift(c, "side * 4", 0, 0);
        drift(c, "(side - 1) * 15", -3, -3);
        drift(c, "0 - side * 17", 3, 3);
        drift(c, "0 - side * side * 3", 2, 1);
        drift(c, "99 - side * 99", 3, 3);
        drift(c, "side * side * 99 - 99", -3, -3);
        drift(c, "19 - (side + 1) / 2 * 19", 1, 1);
        drift(c, "side / 2 * 19", -1, -1);
        Check.unfit("drift(2)", () -> c.drift(2));
        Check.unfit("drift(-1)", () -> c.drift(-1));
        Check.is("nothing stays changed", c.told(5), 15);
    }

    private static void drift(BreadCity c, String law, int east, int north) {
        Check.law(c, law);
        Check.is("east by " + law, c.drift(0), east);
        Check.is("north by " + law, c.drift(1), north);
    }

    // Promise 15
    private static void would() {
        BreadCity c = new BreadCity();
        Check.is("would", c.would(72, 99, 8, 72, 99, 3, 900), 99);
        Check.is("would", c.would(5, 19, 0, 0, 1, 0, 0), 8);
        int[] most = {72, 99, 8, 72, 99, 3, 900};
        for (int i = 0; i < 7; i++) {
            int place = i;
            Check.unfit("would above " + i, () -> would(c, place, most[place] + 1));
            Check.unfit("would below " + i, () -> would(c, place, -1));
            Check.is("would at the most of " + i, would(c, i, most[i]), i == 4 ? -99 : 0);
        }
        String[] words = {"bread", "noses", "lit", "others", "onions", "side", "hour"};
        for (int i = 0; i < 7; i++) {
            Check.law(c, words[i]);
            for (int k = 0; k < 7; k++) {
                Check.is("would " + words[i] + " by " + k, would(c, k, 2), i == k ? 2 : 0);
            }
        }
    }

    private static int would(BreadCity c, int place, int value) {
        int[] v = new int[7];
        v[place] = value;
        return c.would(v[0], v[1], v[2], v[3], v[4], v[5], v[6]);
    }

    // Promise 16
    private static void ahead() {
        BreadCity c = Check.cityOf("quarter 1 20;quarter 0 40;oven 0 9;oven 1 3;reed 20 18;");
        Check.work(c, "light 0;light 1;quench 1;hour;light 1;");
        // 18 by 10 is 1 east for 3 hours more, 12 by 10 is 1 north for 4
        int[] x = {16, 17, 18, 19, 19, 19};
        int[] y = {15, 16, 17, 18, 19, 19};
        int[] lit = {3, 3, 3, 2, 0, 0};
        for (int n = 0; n < 6; n++) {
            Check.is("x ahead " + n, c.ahead(n, 0), x[n]);
            Check.is("y ahead " + n, c.ahead(n, 1), y[n]);
            Check.is("aground ahead " + n, c.ahead(n, 2), 0);
            Check.is("lit ahead " + n, c.ahead(n, 3), lit[n]);
        }
        Check.is("nothing stays changed: x", c.told(5), 16);
        Check.is("nothing stays changed: hour", c.told(4), 1);
        Check.is("nothing stays changed: lit", c.oven(1, 2), 4);
        Check.law(c, "20");
        // 7 hours to the east end, then 92; once by the reed; in the 9th at the north end, then 90 more
        Check.is("aground by then", c.ahead(99, 2), 184);
        Check.is("x by then", c.ahead(99, 0), 30);
        Check.work(c, "again 10[hour;];");
        Check.is("with what was before", c.ahead(0, 2), c.told(8));
        Check.unfit("ahead(100, 0)", () -> c.ahead(100, 0));
        Check.unfit("ahead(-1, 0)", () -> c.ahead(-1, 0));
        Check.unfit("ahead(0, 4)", () -> c.ahead(0, 4));
        Check.unfit("ahead(0, -1)", () -> c.ahead(0, -1));
    }

    // Promise 17
    private static void pilot() {
        BreadCity c = Check.cityOf(BOG);
        Check.is("pilot", c.pilot(0, 1), 1);
        Check.is("pilot", c.pilot(0, 2), 1);
        Check.is("none", c.pilot(1, 2), -1);
        Check.is("it does not lie there now", c.pilot(0, 0), -1);
        // one oven leans 6, two lean 12: any two go a cell east
        BreadCity d = Check.cityOf("quarter 1 30;oven 0 2;oven 0 2;oven 0 2;mooring 16 15;mooring 15 15;mooring 19 15;"
            + "mooring 23 15;flour 2;");
        Check.is("by two of as few the least bits", d.pilot(0, 1), 3);
        Check.is("nothing is lit", d.pilot(1, 0), 0);
        Check.is("by none", d.pilot(1, 12), 0);
        Check.is("4 hours by one cell", d.pilot(2, 4), 3);
        Check.is("not longer lit", d.pilot(2, 12), 3);
        Check.is("8 cells by no two", d.pilot(3, 12), -1);
        Check.is("nothing stays changed", d.told(7), 2);
        Check.work(d, "light 0;");
        Check.is("with the lit one, one more flour", d.pilot(0, 1), 2);
        Check.work(d, "light 2;");
        Check.is("no flour, what is lit", d.pilot(0, 1), 0);
        Check.is("no flour", d.pilot(1, 1), -1);
        Check.unfit("pilot(0, 13)", () -> d.pilot(0, 13));
        Check.unfit("pilot(0, -1)", () -> d.pilot(0, -1));
        Check.missing("pilot(4, 0)", () -> d.pilot(4, 0));
        Check.missing("pilot(-1, 13)", () -> d.pilot(-1, 13));
        Check.law(d, "most[lit - 1, 0] * 20");
        Check.is("by a new law", d.pilot(0, 1), -1);
        BreadCity g = Check.cityOf("quarter 1 30;oven 0 2;oven 0 2;oven 0 4;oven 0 5;mooring 16 15;");
        Check.is("the fewest, of more bits than others", g.pilot(0, 1), 4);
        Check.work(g, "onions 0 4;");
        Check.is("with onions laid", g.pilot(0, 1), 8);
        Check.work(g, "onions 0 0;cold 0;");
        Check.is("with a cold: 15 noses, 7 strong at least", g.pilot(0, 1), 9);
        Check.law(g, "bread * 4 * hour");
        Check.is("by the hour: none in the first", g.pilot(0, 1), -1);
        Check.is("by the hour: 3 in the second, 2 at least in the third", g.pilot(0, 2), 4);
        Check.work(g, "hour;hour;light 1;hour;hour;hour;");
        Check.is("2 strong for one hour more", g.pilot(0, 12), -1);
        BreadCity e = Check.cityOf("quarter 1 30;oven 0 2;oven 0 5;mooring 16 15;flour 0;");
        Check.is("without flour", e.pilot(0, 1), -1);
        BreadCity f = Check.cityOf("quarter 1 30;oven 0 2;oven 0 5;mooring 16 15;flour 1;");
        Check.is("fewest, though of more bits", f.pilot(0, 1), 2);
    }

    // Promise 18
    private static void trim() {
        BreadCity c = Check.cityOf("quarter 1 20;quarter 3 20;quarter 0 20;oven 0 9;oven 2 9;oven 0 9;flour 9;");
        Check.is("it lies still", c.trim(0), 0);
        Check.work(c, "light 0;");
        Check.is("18 less 9 is below 10", c.trim(0), 9);
        Check.is("18 less 9 by the other side", c.trim(1), -1);
        Check.work(c, "onions 0 30;");
        Check.is("what is there does not count", c.trim(0), 9);
        Check.is("12 too many to the east, to -9", c.trim(1), 3);
        Check.work(c, "light 1;");
        Check.is("north as well: none", c.trim(0), -1);
        Check.is("east as well: none", c.trim(2), -1);
        Check.work(c, "onions 0 9;");
        Check.is("only north is left", c.trim(2), 9);
        Check.is("nothing stays changed", c.quarter(2, 3), 0);
        Check.missing("trim(3)", () -> c.trim(3));
        Check.missing("trim(-1)", () -> c.trim(-1));
        BreadCity d = Check.cityOf("quarter 1 1;");
        Check.law(d, "108 - onions");
        Check.is("the 99th", d.trim(0), 99);
        Check.law(d, "109 - onions");
        Check.is("none to 99", d.trim(0), -1);
    }

    // Promise 19
    private static void steps() {
        BreadCity c = Check.cityOf("mooring 15 15;mooring 20 15;mooring 0 30;mooring 30 0;mooring 16 16;"
            + "reed 16 15;reed 16 16;reed 16 14;");
        int[] due = {0, 9, 30, 30, -1};
        for (int m = 0; m < due.length; m++) {
            Check.is("steps(" + m + ")", c.steps(m), due[m]);
        }
        Check.missing("steps(5)", () -> c.steps(5));
        Check.missing("steps(-1)", () -> c.steps(-1));
        BreadCity d = Check.cityOf("mooring 15 15;mooring 30 30;mooring 29 30;reed 15 15;reed 29 30;reed 30 29;");
        Check.is("it lies in a reed", d.steps(0), 0);
        Check.is("behind reeds", d.steps(1), -1);
        Check.is("in a reed", d.steps(2), -1);
        BreadCity e = Check.cityOf("city 0 0;mooring 30 30;mooring 0 30;mooring 30 0;");
        Check.is("corner", e.steps(0), 60);
        Check.is("corner", e.steps(1), 30);
        Check.is("corner", e.steps(2), 30);
        BreadCity f = Check.cityOf("city 0 0;mooring 1 1;reed 0 1;reed 1 0;");
        Check.is("shut in", f.steps(0), -1);
        BreadCity g = Check.cityOf("city 30 30;mooring 0 0;mooring 0 1;reed 30 28;reed 29 29;reed 28 30;");
        Check.is("shut in by a corner", g.steps(0), -1);
        StringBuilder wall = new StringBuilder("city 0 0;mooring 30 19;");
        for (int i = 0; i < 12; i++) {
            wall.append("reed ").append(30 - i).append(' ').append(18 + i).append(';');
        }
        // 48 to 18 30, one to 19 30, then 11 east and 11 south behind the reeds
        Check.is("the long way round", Check.cityOf(wall.toString()).steps(0), 71);
    }

    // Promise 20
    private static void fits() {
        BreadCity c = Check.cityOf(BOG);
        Check.is("no more than the flour", c.fits(0), 15);
        Check.is("the first", c.fits(1), 0);
        Check.is("sure", c.fits(2), 0);
        Check.book(c, "1 16 15;");
        // 10 or 16 less 0 or 4 by 10 is 1; 0 1, 0 2, 0 3 and so on: what holds oven 0, not with 1 alone
        Check.is("by a line", c.fits(0), 5);
        Check.is("the first", c.fits(1), 1);
        Check.is("sure", c.fits(2), 1);
        Check.book(c, "1 16 15;2 30 30;");
        Check.is("none", c.fits(0), 0);
        Check.is("none is first", c.fits(1), -1);
        Check.is("none is sure", c.fits(2), 0);
        Check.unfit("fits(3)", () -> c.fits(3));
        Check.unfit("fits(-1)", () -> c.fits(-1));
        Check.book(c, "1 16 15;12 16 15;");
        Check.work(c, "light 0;");
        Check.is("lit ones are none of a set", c.fits(1), 0);
        Check.is("such sets", c.fits(0), 5);
        BreadCity d = Check.cityOf("quarter 1 10;oven 0 9;oven 0 9;oven 0 9;flour 99;");
        Check.book(d, "1 16 15;");
        Check.is("18 by 10, by any two", d.fits(0), 3);
        Check.is("the first", d.fits(1), 3);
        Check.is("sure of none", d.fits(2), 0);
    }

    // Promise 21
    private static void look() {
        BreadCity c = Check.cityOf(BOG);
        Check.is("the hour", c.look(0), 1);
        Check.is("left at the worst", c.look(1), 10);
        Check.book(c, "1 16 15;");
        Check.is("in no line", c.look(0), 2);
        Check.is("left at the worst", c.look(1), 5);
        Check.unfit("look(2)", () -> c.look(2));
        Check.unfit("look(-1)", () -> c.look(-1));
        // the first oven less the third tells nothing: of -1, 0, 0, 1, 1, 2, 2, 3 two sets are alike in every hour
        BreadCity d = Check.cityOf("quarter 1 99;quarter 3 99;oven 0 1;oven 0 2;oven 1 1;flour 99;");
        Check.law(d, "bread * 7 * hour");
        Check.is("one cell tells 1 from 0 in the third hour", d.look(0), 3);
        Check.is("left at the worst", d.look(1), 2);
        Check.book(d, "4 0 0;");
        Check.is("no set is left: the first hour in no line", d.look(0), 1);
        Check.is("none is left", d.look(1), 0);
        Check.book(d, "1 0 0;2 0 0;3 0 0;4 0 0;5 0 0;6 0 0;");
        Check.is("the first hour in no line", d.look(0), 7);
    }

    // Promise 22
    private static void gusts() {
        BreadCity c = new BreadCity();
        fraction(c, 0, 0, 9, 1, 1);
        fraction(c, 0, 1, 9, 0, 1);
        fraction(c, 2, 1, 8, 1, 2);
        fraction(c, 3, 1, 4, 27, 64);
        fraction(c, 2, 3, 8, 0, 1);
        fraction(c, 4, 4, 16, 1, 1);
        fraction(c, 4, 3, 16, 0, 1);
        fraction(c, 4, 0, 0, 1, 1);
        fraction(c, 4, 1, 0, 0, 1);
        fraction(c, 1, 1, 3, 3, 16);
        fraction(c, 1, 0, 3, 13, 16);
        fraction(c, 12, 12, 1, 1, 281474976710656L);
        fraction(c, 12, 6, 8, 231, 1024);
        // 12 ways, 15 to the 11th, by 16 to the 12th
        fraction(c, 12, 1, 1, 3L * 8649755859375L, 70368744177664L);
        Check.unfit("n 13", () -> c.gusts(13, 0, 0, 0));
        Check.unfit("n -1", () -> c.gusts(-1, 0, 0, 0));
        Check.unfit("k 13", () -> c.gusts(0, 13, 0, 0));
        Check.unfit("k -1", () -> c.gusts(0, -1, 0, 0));
        Check.unfit("q 17", () -> c.gusts(0, 0, 17, 0));
        Check.unfit("q -1", () -> c.gusts(0, 0, -1, 0));
        Check.unfit("part 2", () -> c.gusts(0, 0, 0, 2));
        Check.unfit("part -1", () -> c.gusts(0, 0, 0, -1));
    }

    private static void fraction(BreadCity c, int n, int k, int q, long above, long below) {
        String what = "gusts(" + n + ", " + k + ", " + q + ")";
        Check.is(what + " above", c.gusts(n, k, q, 0), above);
        Check.is(what + " below", c.gusts(n, k, q, 1), below);
    }

    // Promise 23
    private static void bakers() {
        BreadCity c = new BreadCity();
        rests(c, 0, 9, 1, 0, 8);
        rests(c, 1, 5, 1, 11, 2);
        rests(c, 2, 3, 0, -1, 0);
        rests(c, 9, 1, 3, 0, 0);
        rests(c, 9, 0, 1, 0, 0);
        rests(c, 9, 2, 4, 0, 2);
        // the prize is high: both bake all they can
        rests(c, 9, 99, 1, 99, 80);
        rests(c, 1, 2, 4, 0, 2);
        rests(c, 1, 99, 1, 11, 96);
        Check.unfit("k 10", () -> c.bakers(10, 0, 0));
        Check.unfit("k -1", () -> c.bakers(-1, 0, 0));
        Check.unfit("v 100", () -> c.bakers(0, 100, 0));
        Check.unfit("v -1", () -> c.bakers(0, -1, 0));
        Check.unfit("what 3", () -> c.bakers(0, 0, 3));
        Check.unfit("what -1", () -> c.bakers(0, 0, -1));
    }

    private static void rests(BreadCity c, int k, int v, int many, int first, int both) {
        String what = "bakers(" + k + ", " + v + ")";
        Check.is(what + " rests", c.bakers(k, v, 0), many);
        Check.is(what + " first", c.bakers(k, v, 1), first);
        Check.is(what + " both", c.bakers(k, v, 2), both);
    }

    // Promise 24
    private static void sacks() {
        BreadCity c = Check.cityOf(BOG);
        Check.is("levelled", c.sacks(2, 7, 40), 15);
        Check.is("no more than its noses", c.sacks(1, 7, 40), 10);
        Check.is("41 is not enough for 16", c.sacks(0, 7, 41), 15);
        Check.is("42 is", c.sacks(0, 7, 42), 16);
        Check.is("all", c.sacks(2, 7, 60), 30);
        Check.is("all", c.sacks(2, 7, 999), 30);
        Check.is("one less", c.sacks(2, 7, 59), 29);
        Check.is("too few for one each", c.sacks(0, 7, 2), 0);
        Check.is("one each", c.sacks(0, 7, 3), 1);
        Check.is("nothing", c.sacks(0, 7, 0), 0);
        Check.is("none of them", c.sacks(0, 4, 9), 0);
        Check.is("alone", c.sacks(2, 4, 9), 9);
        Check.is("of no set", c.sacks(2, 0, 9), 0);
        Check.unfit("bits of no quarters", () -> c.sacks(0, 8, 9));
        Check.unfit("bits of no quarters", () -> c.sacks(0, 9, 9));
        Check.unfit("bits of no quarters", () -> c.sacks(0, -1, 9));
        Check.unfit("n 1000", () -> c.sacks(0, 7, 1000));
        Check.unfit("n -1", () -> c.sacks(0, 7, -1));
        Check.missing("quarter 3", () -> c.sacks(3, 8, 1000));
        Check.missing("quarter -1", () -> c.sacks(-1, 7, 9));
        Check.work(c, "cold 2;");
        Check.is("noses as told, with a cold too", c.sacks(2, 7, 60), 30);
        BreadCity d = Check.cityOf("quarter 0 99;quarter 0 99;");
        Check.is("up to 99", d.sacks(1, 3, 198), 99);
        Check.is("up to 99", d.sacks(1, 3, 197), 98);
    }

    // Promises 25 and 26
    private static void leaguesAndKey() {
        BreadCity c = Check.cityOf(BOG);
        Check.is("leagues: just half is none", c.leagues(), 3);
        Check.is("key", c.key(0), 1);
        Check.is("key", c.key(1), 1);
        Check.is("key", c.key(2), 3);
        Check.missing("key(3)", () -> c.key(3));
        Check.missing("key(-1)", () -> c.key(-1));
        Check.work(c, "cold 2;");
        Check.is("noses as told", c.leagues(), 3);
        Check.is("without quarters", new BreadCity().leagues(), 0);
        BreadCity d = Check.cityOf("quarter 0 1;".repeat(5));
        Check.is("any three of five", d.leagues(), 16);
        Check.is("just with two others", d.key(4), 6);
        BreadCity e = Check.cityOf("quarter 0 9;quarter 0 2;quarter 1 2;quarter 2 2;quarter 3 2;quarter 0 1;");
        Check.is("one by 9 of 18", e.leagues(), 31);
        Check.is("key of the great one", e.key(0), 31);
        Check.is("key of a small one", e.key(5), 1);
    }

    // Promise 27
    private static void nearest() {
        BreadCity c = Check.cityOf("mooring 20 20;mooring 15 18;mooring 12 15;mooring 0 0;");
        Check.is("the first of alike ones", c.nearest(0), 1);
        Check.is("how far", c.nearest(1), 3);
        Check.unfit("nearest(2)", () -> c.nearest(2));
        Check.unfit("nearest(-1)", () -> c.nearest(-1));
        BreadCity d = Check.cityOf("mooring 15 14;mooring 15 17;");
        Check.is("the first of all", d.nearest(0), 0);
        Check.is("how far", d.nearest(1), 1);
        BreadCity none = new BreadCity();
        Check.is("none", none.nearest(0), -1);
        Check.is("none", none.nearest(1), -1);
    }

    // Promise 28
    private static void sweetest() {
        BreadCity c = Check.cityOf(BOG);
        Check.is("the first of alike ones", c.sweetest(0), 0);
        Check.is("lean", c.sweetest(1), 0);
        Check.law(c, "0 - 9 - (side - 3) * (side - 3)");
        Check.is("all below 0", c.sweetest(0), 1);
        Check.is("lean below 0", c.sweetest(1), -9);
        Check.law(c, "noses");
        Check.is("the last", c.sweetest(0), 2);
        Check.is("lean", c.sweetest(1), 30);
        Check.unfit("sweetest(2)", () -> c.sweetest(2));
        Check.unfit("sweetest(-1)", () -> c.sweetest(-1));
        BreadCity d = Check.cityOf(BOG);
        Check.work(d, "light 0;light 2;");
        Check.is("by its own bread", d.sweetest(1), 10);
        Check.is("by its own bread", d.sweetest(0), 0);
        BreadCity none = new BreadCity();
        Check.is("none", none.sweetest(0), -1);
        Check.is("none", none.sweetest(1), 0);
    }

    // Promise 29
    private static void heaviest() {
        BreadCity c = Check.cityOf("quarter 3 20;quarter 1 15;quarter 2 20;quarter 1 6;");
        Check.is("by two quarters", c.heaviest(0), 1);
        Check.is("how many", c.heaviest(1), 21);
        Check.work(c, "cold 1;");
        Check.is("as told", c.heaviest(1), 21);
        BreadCity d = Check.cityOf("quarter 3 20;quarter 2 20;quarter 0 19;");
        Check.is("the least of alike ones", d.heaviest(0), 2);
        Check.is("how many", d.heaviest(1), 20);
        Check.is("west", Check.cityOf("quarter 3 1;").heaviest(0), 3);
        Check.unfit("heaviest(2)", () -> d.heaviest(2));
        Check.unfit("heaviest(-1)", () -> d.heaviest(-1));
        Check.is("without quarters", new BreadCity().heaviest(0), 0);
        Check.is("without quarters", new BreadCity().heaviest(1), 0);
    }

    // Promise 30
    private static void side() {
        BreadCity c = Check.cityOf("quarter 1 10;quarter 1 20;quarter 3 30;quarter 0 99;quarter 0 99;");
        Check.law(c, "noses * 2 - side");
        int[] due = {198, 58, 0, 57};
        for (int d = 0; d < 4; d++) {
            Check.is("side(" + d + ")", c.side(d), due[d]);
        }
        Check.unfit("side(4)", () -> c.side(4));
        Check.unfit("side(-1)", () -> c.side(-1));
    }

    // Promise 31
    private static void room() {
        BreadCity c = Check.cityOf("city 10 20;reed 10 25;reed 8 20;reed 10 5;reed 10 2;reed 9 19;");
        int[] due = {4, 20, 14, 1};
        for (int d = 0; d < 4; d++) {
            Check.is("room(" + d + ")", c.room(d), due[d]);
        }
        Check.unfit("room(4)", () -> c.room(4));
        Check.unfit("room(-1)", () -> c.room(-1));
        BreadCity e = Check.cityOf("city 0 0;reed 0 0;reed 0 1;");
        int[] corner = {0, 30, 0, 0};
        for (int d = 0; d < 4; d++) {
            Check.is("room(" + d + ") of a corner", e.room(d), corner[d]);
        }
    }

    // Promise 32
    private static void wreck() {
        BreadCity c = Check.cityOf("quarter 1 10;quarter 0 10;");
        Check.is("never", c.wreck(), -1);
        Check.law(c, "10 - side * 10");
        Check.is("15 cells north, then", c.wreck(), 16);
        Check.work(c, "again 16[hour;];");
        Check.is("aground", c.told(8), 1);
        Check.is("the next time", c.wreck(), 1);
        // it lies at the north end, and leans from HOUR 214, 215, 216 on
        Check.law(c, "most[0, least[hour - 213, 1]] * (10 - side * 10)");
        Check.is("the 199th hour", c.wreck(), 199);
        Check.law(c, "most[0, least[hour - 214, 1]] * (10 - side * 10)");
        Check.is("the 200th hour", c.wreck(), 200);
        Check.law(c, "most[0, least[hour - 215, 1]] * (10 - side * 10)");
        Check.is("beyond 200", c.wreck(), -1);
        Check.is("nothing stays changed", c.told(4), 16);
        Check.is("by a reed", reedAhead().wreck(), 2);
    }

    private static BreadCity reedAhead() {
        BreadCity c = Check.cityOf("quarter 3 10;reed 13 15;");
        Check.law(c, "10");
        return c;
    }

    // Promise 33
    private static void cool() {
        BreadCity c = Check.cityOf("quarter 0 1;oven 0 3;oven 0 7;oven 0 7;oven 0 5;");
        Check.is("bits", c.cool(0), 15);
        Check.is("the first strongest", c.cool(1), 1);
        Check.work(c, "light 1;");
        Check.is("bits", c.cool(0), 13);
        Check.is("the strongest", c.cool(1), 2);
        Check.work(c, "light 2;light 3;");
        Check.is("bits", c.cool(0), 1);
        Check.is("the strongest", c.cool(1), 0);
        Check.work(c, "light 0;");
        Check.is("none", c.cool(0), 0);
        Check.is("none", c.cool(1), -1);
        Check.work(c, "quench 3;");
        Check.is("quenched", c.cool(1), 3);
        Check.unfit("cool(2)", () -> c.cool(2));
        Check.unfit("cool(-1)", () -> c.cool(-1));
        Check.is("without ovens", new BreadCity().cool(1), -1);
    }

    // Promise 34
    private static void safe() {
        Check.is("the first", Check.cityOf("mooring 9 9;").safe(), 1);
        Check.is("edges are not", Check.cityOf("mooring 0 15;mooring 30 15;mooring 15 0;mooring 15 30;mooring 1 29;"
            + "mooring 29 1;").safe(), 48);
        Check.is("reeds beside", Check.cityOf("mooring 5 5;mooring 10 5;mooring 15 5;mooring 20 5;mooring 25 5;"
            + "reed 6 5;reed 9 5;reed 15 6;reed 20 4;reed 25 5;reed 24 4;reed 26 6;").safe(), 16);
        Check.is("none", new BreadCity().safe(), 0);
    }

    // Promise 35
    private static void season() {
        BreadCity c = Check.cityOf("quarter 1 20;oven 0 5;flour 2;");
        // the one oven is lit at once, and again in the fifth hour: 8 hours of one cell
        Check.is("x", c.season(7, 0, 3, 0), 18);
        Check.is("flour", c.season(7, 0, 4, 2), 1);
        Check.is("flour", c.season(7, 0, 5, 2), 0);
        Check.is("x", c.season(7, 0, 96, 0), 23);
        Check.is("y", c.season(7, 0, 96, 1), 15);
        Check.is("aground", c.season(7, 0, 96, 3), 0);
        // a cold in each hour: 10 noses, none, 10, .., so 5 by 10 is 0 in every other hour
        Check.is("x by colds", c.season(7, 16, 4, 0), 17);
        Check.is("nothing stays changed", c.told(7), 2);
        BreadCity d = Check.cityOf("quarter 1 20;quarter 3 20;oven 0 5;oven 1 5;flour 1;");
        // SEED 0 becomes 12,345: its bits 16 to 30 are 0, so the first oven is lit
        Check.is("draws of seed 0", d.season(0, 0, 1, 0), 16);
        // SEED 1 becomes 1,103,527,590: its bits 16 to 30 are 16,838, which is even
        Check.is("draws of seed 1", d.season(1, 0, 1, 0), 16);
        // SEED 3 becomes 3,310,558,080: its bits 16 to 30 are 17,747, which is odd
        Check.is("draws of seed 3", d.season(3, 0, 1, 0), 14);
        Check.is("draws of seed 3", d.season(3, 0, 1, 2), 0);
        colds();
        BreadCity none = new BreadCity();
        Check.is("without ovens", none.season(1, 16, 96, 0), 15);
        BreadCity e = Check.cityOf("quarter 1 20;");
        Check.law(e, "noses");
        Check.is("without ovens nothing is drawn, hours go by", e.season(1, 16, 3, 0), 21);
        Check.is("aground", e.season(1, 16, 96, 3), 89);
        Check.unfit("c 17", () -> c.season(1, 17, 1, 0));
        Check.unfit("c -1", () -> c.season(1, -1, 1, 0));
        Check.unfit("hours 0", () -> c.season(1, 0, 0, 0));
        Check.unfit("hours 97", () -> c.season(1, 0, 97, 0));
        Check.unfit("what 4", () -> c.season(1, 0, 1, 4));
        Check.unfit("what -1", () -> c.season(1, 0, 1, -1));
    }

    /** By SEED 1 are drawn 16838, 5758, 10113; 17515, 31051, 5627; 23010, 7419, 16212. */
    private static void colds() {
        BreadCity c = Check.cityOf("quarter 1 40;quarter 0 40;quarter 3 20;oven 0 5;oven 1 5;oven 1 5;oven 2 5;");
        // oven 2; quarter 1; 1 of 16 - oven 3; quarter 1; 11 of 16 - oven 2; quarter 0; 4 of 16
        Check.is("y by oven 2", c.season(1, 0, 1, 1), 17);
        Check.is("y, no cold below 1", c.season(1, 1, 1, 1), 17);
        Check.is("y, a cold below 2", c.season(1, 2, 1, 1), 16);
        Check.is("x by oven 3", c.season(1, 0, 2, 0), 14);
        Check.is("y, a cold and no more", c.season(1, 12, 2, 1), 18);
        Check.is("y, the cold stays", c.season(1, 11, 2, 1), 17);
        Check.is("flour: oven 2 is lit yet", c.season(1, 0, 3, 2), 7);
        Check.work(c, "cold 1;");
        Check.is("y, a cold from before", c.season(1, 0, 1, 1), 16);
        Check.is("y, and no more", c.season(1, 16, 1, 1), 17);
        // by SEED 23 are drawn 26833, 20599, 12880, which is 0 of 16
        BreadCity d = Check.cityOf("quarter 1 20;oven 0 5;");
        Check.is("nothing is below 0", d.season(23, 0, 1, 0), 16);
        Check.is("0 is below 1", d.season(23, 1, 1, 0), 15);
    }

    // Promise 36
    private static void span() {
        BreadCity c = Check.cityOf("quarter 1 20;quarter 3 20;oven 0 5;oven 1 5;flour 1;mooring 16 15;mooring 16 15;");
        Check.is("least x", c.span(0, 4, 0, 1, 0), 14);
        Check.is("most x", c.span(0, 4, 0, 1, 1), 16);
        int moored = 0;
        for (int seed = -3; seed < 17; seed++) {
            moored += c.season(seed, 0, 1, 0) == 16 ? 1 : 0;
        }
        Check.is("a mooring told twice counts once", c.span(-3, 20, 0, 1, 2), moored);
        Check.is("one seed", c.span(3, 1, 0, 1, 1), 14);
        Check.is("one seed and no more", c.span(2, 1, 0, 1, 0), c.season(2, 0, 1, 0));
        Check.is("no seed behind", c.span(1, 2, 0, 1, 0), 16);
        Check.is("two seeds and the third", c.span(1, 3, 0, 1, 0), 14);
        BreadCity d = Check.cityOf("quarter 1 20;oven 0 5;mooring 17 15;mooring 16 15;mooring 16 14;");
        Check.is("at the first mooring", d.span(5, 7, 0, 2, 2), 7);
        Check.is("at the second", d.span(5, 7, 0, 1, 2), 7);
        Check.is("at none", d.span(5, 7, 0, 3, 2), 0);
        Check.is("seeds wrap", c.span(Integer.MAX_VALUE, 2, 3, 5, 1),
            Math.max(c.season(Integer.MAX_VALUE, 3, 5, 0), c.season(Integer.MIN_VALUE, 3, 5, 0)));
        Check.unfit("many 0", () -> c.span(1, 0, 0, 1, 0));
        Check.unfit("many 21", () -> c.span(1, 21, 0, 1, 0));
        Check.unfit("c 17", () -> c.span(1, 1, 17, 1, 0));
        Check.unfit("c -1", () -> c.span(1, 1, -1, 1, 0));
        Check.unfit("hours 0", () -> c.span(1, 1, 0, 0, 0));
        Check.unfit("hours 97", () -> c.span(1, 1, 0, 97, 0));
        Check.unfit("what 3", () -> c.span(1, 1, 0, 1, 3));
        Check.unfit("what -1", () -> c.span(1, 1, 0, 1, -1));
    }

    // Promises 37 and 38
    private static void imageAndRestore() {
        BreadCity c = Check.cityOf(BOG);
        Check.work(c, "light 0;onions 1 3;");
        Check.is("image", c.image(), 1);
        Check.work(c, "hour;cold 0;");
        Check.is("image", c.image(), 2);
        Check.work(c, "hour;quench 0;quench 0;light 1;");
        Check.is("image", c.image(), 3);
        Check.is("a fourth", c.image(), -1);
        Check.is("images", c.count(0), 3);
        Check.law(c, "7");
        Check.book(c, "1 1 1;");
        Check.tell(c, "x");
        c.undo();
        c.undo();
        c.undo();
        Check.work(c, "cold 2;");
        Check.is("restore", c.restore(), 2);
        Check.is("hour", c.told(4), 2);
        Check.is("lit", c.told(11), 2);
        Check.is("cold", c.quarter(2, 4), 0);
        Check.is("works", c.count(2), 3);
        Check.is("law stays", c.would(0, 0, 0, 0, 0, 0, 0), 7);
        Check.is("book stays", c.told(9), 1);
        Check.is("undo behind restore", c.undo(), 2);
        Check.is("hour", c.told(4), 1);
        Check.is("lit", c.told(11), 1);
        Check.is("undo behind restore", c.undo(), 1);
        Check.is("cold", c.quarter(0, 4), 0);
        Check.work(c, "cold 1;hour;");
        Check.is("restore", c.restore(), 1);
        Check.is("works", c.count(2), 2);
        Check.is("hour", c.told(4), 1);
        Check.is("undo", c.undo(), 1);
        Check.is("hour", c.told(4), 0);
        Check.is("restore", c.restore(), 0);
        Check.is("works", c.count(2), 1);
        Check.is("onions", c.quarter(1, 3), 3);
        Check.is("undo", c.undo(), 0);
        Check.is("onions", c.quarter(1, 3), 0);
        Check.is("restore", c.restore(), -1);
        Check.is("image anew", c.image(), 1);
        tapeStaysByRestore();
    }

    private static void tapeStaysByRestore() {
        BreadCity c = new BreadCity();
        c.image();
        c.feed(0, 0, 0, 0, 0);
        c.restore();
        Check.is("tape stays", c.count(1), 20);
        for (int i = 0; i < 16; i++) {
            Check.is("work", c.work(0), 0);
        }
        c.image();
        c.undo();
        c.restore();
        Check.is("16 works by an image", c.work(0), -20);
        worksOfImages();
    }

    /** Three IMAGES with WORKS of their own, and others done in between. */
    private static void worksOfImages() {
        BreadCity c = Check.cityOf("quarter 0 9;");
        for (int i = 0; i < 3; i++) {
            while (c.undo() >= 0) {
                Check.report(c.count(2) < 16, "undone");
            }
            for (int k = 0; k < 16; k++) {
                Check.is("work", Check.work(c, "onions 0 " + (20 * i + k + 1) + ";"), 1);
            }
            Check.is("image", c.image(), i + 1);
        }
        while (c.undo() >= 0) {
            Check.work(c, "hour;");
            c.undo();
        }
        for (int i = 2; i >= 0; i--) {
            Check.is("restore", c.restore(), i);
            for (int k = 15; k >= 0; k--) {
                Check.is("onions of image " + i, c.quarter(0, 3), 20 * i + k + 1);
                Check.is("undo", c.undo(), k);
            }
            Check.is("onions at first", c.quarter(0, 3), 0);
        }
    }

    // Promise 39
    private static void status() {
        BreadCity c = Check.cityOf(BOG);
        c.image();
        Check.missing("oven(9, 9)", () -> c.oven(9, 9));
        Check.missing("key(9)", () -> c.key(9));
        Check.unfit("law(9)", () -> c.law(9));
        Check.unfit("told(99)", () -> c.told(99));
        Check.unfit("drift(9)", () -> c.drift(9));
        Check.is("missing", c.status(0), 2);
        Check.is("unfit", c.status(1), 3);
        Check.is("others", c.status(2), -1);
        Check.is("others", c.status(-1), -1);
        c.restore();
        Check.is("no image keeps it", c.status(1), 3);
        Check.bog(c, "");
        Check.is("a bog leaves it", c.status(0), 2);
        Check.is("an answer below 0 is no refusal", c.undo() + c.restore(), -2);
        Check.is("unfit", c.status(1), 3);
    }

    // Promise 40
    private static void count() {
        BreadCity c = Check.cityOf(BOG);
        Check.work(c, "hour;");
        Check.work(c, "hour;");
        c.image();
        c.feed(0, 0, 0, 0, 0);
        c.feed(0, 0, 0, 0, 0);
        Check.is("images", c.count(0), 1);
        Check.is("bytes", c.count(1), 40);
        Check.is("works", c.count(2), 2);
        Check.is("others", c.count(3), -1);
        Check.is("others", c.count(-1), -1);
    }
}
