/** The sentences about nights (part 2 of the document), WORKS, undo() and IMAGES: their edges. */
public final class NightEdgeTests {
    /** All OVENS in the first QUARTER, a second one without. */
    private static final String BOG = "quarter 1 20;quarter 3 20;oven 0 5;oven 0 5;oven 0 5;flour 5;";

    public static void main(String[] args) {
        atFirst();
        inOrder();
        twoHundred();
        twoHundredAgains();
        light();
        quench();
        onions();
        cold();
        hourNineHundred();
        hourByHour();
        paces();
        reckonedAtFirst();
        ends();
        reeds();
        byBoth();
        sixteenWorks();
        undo();
        refusedSteps();
        images();
        imagesKeepAll();
        allComesBack();
        Check.end("NightEdgeTests");
    }

    private static void atFirst() {
        Check.sentence("It is HOUR 0 at first, no OVEN is lit, there are no onions, nobody has a cold;");
        BreadCity c = Check.cityOf("quarter 0 1;".repeat(6) + "oven 0 1;".repeat(8));
        for (int round = 0; round < 2; round++) {
            Check.is("HOUR", c.told(4), 0);
            Check.is("lit", c.told(11), 0);
            Check.is("aground", c.told(8), 0);
            for (int q = 0; q < 6; q++) {
                Check.is("onions of " + q, c.quarter(q, 3), 0);
                Check.is("cold of " + q, c.quarter(q, 4), 0);
            }
            for (int o = 0; o < 8; o++) {
                Check.is("hours of " + o, c.oven(o, 2), 0);
                Check.is("times of " + o, c.oven(o, 3), 0);
            }
            Check.law(c, "99");
            Check.work(c, "again 6[hour;];light 0;light 7;onions 0 1;onions 5 1;cold 0;cold 5;");
            Check.bog(c, "quarter 0 1;".repeat(6) + "oven 0 1;".repeat(8));
        }
        Check.sentence("the city lies as told (where a reed is, too).");
        BreadCity d = Check.cityOf("quarter 1 10;city 3 4;reed 3 4;reed 5 4;mooring 3 4;");
        Check.is("x", d.told(5), 3);
        Check.is("y", d.told(6), 4);
        Check.is("the reed", d.reed(3, 4), 1);
        Check.law(d, "10");
        Check.work(d, "hour;");
        Check.is("it leaves the reed", d.told(5), 4);
        Check.is("not aground by where it lay", d.told(8), 0);
        Check.law(d, "0 - 10");
        Check.work(d, "hour;");
        Check.is("and comes not back", d.told(5), 4);
        Check.is("aground by it", d.told(8), 1);
    }

    private static void inOrder() {
        Check.sentence("STEPS are done in order; one that can't be done is REFUSED, and changes nothing;");
        BreadCity c = Check.cityOf(BOG);
        Check.is("done", Check.work(c, "light 0;quench 0;quench 0;light 0;light 0;onions 0 3;onions 0 3;onions 0 4;"), 5);
        Check.is("REFUSED", c.told(10), 3);
        Check.is("lit", c.oven(0, 2), 4);
        Check.is("times", c.oven(0, 3), 2);
        Check.is("flour", c.told(7), 3);
        Check.is("onions", c.quarter(0, 3), 4);
        for (String step : new String[] {"quench 1;", "light 0;", "onions 0 4;", "onions 1 0;"}) {
            int[] before = all(c);
            Check.is("done of " + step, Check.work(c, step), 0);
            Check.is("REFUSED of " + step, c.told(10), 1);
            int[] behind = all(c);
            for (int i = 0; i < before.length; i++) {
                Check.is("thing " + i + " behind " + step, behind[i], before[i]);
            }
            c.undo();
        }
    }

    private static int[] all(BreadCity c) {
        int[] all = new int[6 + 3 * 2 + 2 * 2];
        int[] whats = {4, 5, 6, 7, 8, 11};
        for (int i = 0; i < 6; i++) {
            all[i] = c.told(whats[i]);
        }
        for (int o = 0; o < 3; o++) {
            all[6 + 2 * o] = c.oven(o, 2);
            all[7 + 2 * o] = c.oven(o, 3);
        }
        for (int q = 0; q < 2; q++) {
            all[12 + 2 * q] = c.quarter(q, 3);
            all[13 + 2 * q] = c.quarter(q, 4);
        }
        return all;
    }

    private static void begun(String work, int done, int refused, int cold) {
        BreadCity c = Check.cityOf(BOG);
        Check.is("done by " + work, Check.work(c, work), done);
        Check.is("REFUSED by " + work, c.told(10), refused);
        Check.is("the last STEP of " + work, c.quarter(1, 4), cold);
    }

    private static void twoHundred() {
        Check.sentence("200 STEPS at most are begun by one WORK (an again, too, each time it is come to; REFUSED ones, too), "
            + "what would come behind is left out.");
        String six = "again 30[hour;hour;hour;hour;hour;hour;];";
        // 181 are begun by that, an again and 17, 18, 19 more: 199, 200, 201, then the last one
        begun(six + "again 17[hour;];cold 1;", 198, 0, 1);
        begun(six + "again 18[hour;];cold 1;", 198, 0, 0);
        begun(six + "again 19[hour;];cold 1;", 198, 0, 0);
        begun(six + "again 16[hour;];hour;cold 1;", 198, 0, 1);
        // the same with REFUSED ones
        String refused = "again 30[quench 0;quench 0;hour;hour;hour;hour;];";
        begun(refused + "again 17[quench 1;];cold 1;", 121, 77, 1);
        begun(refused + "again 18[quench 1;];cold 1;", 120, 78, 0);
        begun(refused + "again 30[quench 1;];cold 1;", 120, 78, 0);
        begun("again 30[again 30[hour;];];cold 1;", 192, 0, 0);
    }

    private static void twoHundredAgains() {
        // an again of nothing is one; one in an again is one each time
        begun("again 30[again 0[hour;];again 0[];again 0[];again 0[];again 0[];again 0[];];again 17[hour;];cold 1;", 18, 0, 1);
        begun("again 30[again 0[hour;];again 0[];again 0[];again 0[];again 0[];again 0[];];again 18[hour;];cold 1;", 18, 0, 0);
        // 1 and 28 times 7 are 197: two more and the last one is the 200th
        begun("again 28[again 3[hour;];hour;hour;hour;];hour;hour;cold 1;", 171, 0, 1);
        begun("again 28[again 3[hour;];hour;hour;hour;];hour;hour;hour;cold 1;", 171, 0, 0);
        // an again that is the 200th is begun, but nothing in it is
        begun("again 28[again 3[hour;];hour;hour;hour;];hour;hour;again 1[cold 1;];", 170, 0, 0);
        begun("again 28[again 3[hour;];hour;hour;hour;];hour;again 1[cold 1;];", 170, 0, 1);
        // a WORK begins its own count
        BreadCity c = Check.cityOf(BOG);
        Check.is("200", Check.work(c, "again 30[again 30[hour;];];"), 192);
        Check.is("and again", Check.work(c, "again 30[again 30[hour;];];"), 192);
    }

    private static void light() {
        Check.sentence("light: O is lit for 4 hours, one flour less (REFUSED, if it is lit, or there is no flour).");
        BreadCity c = Check.cityOf("quarter 1 20;oven 0 5;oven 0 1;flour 2;");
        Check.is("light", Check.work(c, "light 0;"), 1);
        Check.is("flour", c.told(7), 1);
        for (int left = 4; left >= 1; left--) {
            Check.is("lit yet", c.oven(0, 2), left);
            Check.is("bits", c.told(11), 1);
            Check.is("bread", c.quarter(0, 2), 5);
            Check.is("lit: REFUSED", Check.work(c, "light 0;"), 0);
            Check.is("flour", c.told(7), 1);
            Check.is("times", c.oven(0, 3), 1);
            Check.work(c, "hour;");
        }
        Check.is("out", c.oven(0, 2), 0);
        Check.is("bits", c.told(11), 0);
        Check.is("bread", c.quarter(0, 2), 0);
        Check.is("4 hours of one cell", c.told(5), 19);
        Check.is("the last flour", Check.work(c, "light 0;"), 1);
        Check.is("flour", c.told(7), 0);
        Check.is("times", c.oven(0, 3), 2);
        Check.is("no flour: REFUSED", Check.work(c, "light 1;"), 0);
        Check.is("flour", c.told(7), 0);
        Check.is("times", c.oven(1, 3), 0);
        Check.is("lit", c.told(11), 1);
        BreadCity d = Check.cityOf("quarter 1 20;oven 0 5;flour 0;");
        Check.is("flour 0: REFUSED", Check.work(d, "light 0;"), 0);
        Check.is("flour 0", d.told(7), 0);
        Check.is("REFUSED", d.told(10), 1);
        BreadCity e = Check.cityOf("quarter 1 1;" + "oven 0 9;".repeat(8) + "flour 99;");
        Check.is("all OVENS", Check.work(e, "light 0;light 1;light 2;light 3;light 4;light 5;light 6;light 7;"), 8);
        Check.is("lit", e.told(11), 255);
        Check.is("flour", e.told(7), 91);
    }

    private static void quench() {
        Check.sentence("quench: it is lit no more (REFUSED, if it is not).");
        BreadCity c = Check.cityOf(BOG);
        Check.is("never lit", Check.work(c, "quench 0;"), 0);
        Check.is("lit", Check.work(c, "light 0;light 1;quench 0;"), 3);
        Check.is("hours", c.oven(0, 2), 0);
        Check.is("the other one", c.oven(1, 2), 4);
        Check.is("flour comes not back", c.told(7), 3);
        Check.is("times stay", c.oven(0, 3), 1);
        Check.is("twice", Check.work(c, "quench 0;"), 0);
        Check.is("in its last hour", Check.work(c, "hour;hour;hour;quench 1;"), 4);
        Check.is("out by itself", Check.work(c, "light 0;hour;hour;hour;hour;quench 0;"), 5);
        Check.is("lit anew it has 4 hours", Check.work(c, "light 0;hour;quench 0;light 0;") + c.oven(0, 2), 8);
    }

    private static void onions() {
        Check.sentence("onions: there are N in Q (REFUSED, if there are).");
        BreadCity c = Check.cityOf(BOG);
        Check.is("0 at first: REFUSED", Check.work(c, "onions 0 0;"), 0);
        Check.is("REFUSED", c.told(10), 1);
        Check.is("99, and no other QUARTER's", Check.work(c, "onions 0 99;") + c.quarter(0, 3) + c.quarter(1, 3), 100);
        Check.is("99 again: REFUSED", Check.work(c, "onions 0 99;"), 0);
        Check.is("98", Check.work(c, "onions 0 98;") + c.quarter(0, 3), 99);
        Check.is("they stay by hours", Check.work(c, "hour;") + c.quarter(0, 3), 99);
        Check.is("0 once more", Check.work(c, "onions 0 0;") + c.quarter(0, 3), 1);
    }

    private static void cold() {
        Check.sentence("cold: Q has one, or no more.");
        BreadCity c = Check.cityOf("quarter 1 7;".repeat(6));
        for (int q = 0; q < 6; q++) {
            Check.is("one", Check.work(c, "cold " + q + ";") + c.quarter(q, 4), 2);
            Check.is("it stays by hours", Check.work(c, "hour;") + c.quarter(q, 4), 2);
            Check.is("no more", Check.work(c, "cold " + q + ";") + c.quarter(q, 4), 1);
            Check.is("and one", Check.work(c, "cold " + q + ";") + c.quarter(q, 4), 2);
            while (c.undo() > 0) {
                Check.report(c.count(2) < 16, "undone");
            }
            Check.work(c, "cold " + q + ";");
            for (int other = 0; other < 6; other++) {
                Check.is("cold of " + other, c.quarter(other, 4), other == q ? 1 : 0);
            }
            c.undo();
        }
    }

    private static void hourNineHundred() {
        Check.sentence("hour (REFUSED from HOUR 900 on)");
        BreadCity c = Check.cityOf("quarter 1 20;oven 0 5;flour 9;");
        for (int i = 0; i < 5; i++) {
            Check.is("170 hours", Check.work(c, "again 30[again 6[hour;];];"), 170);
        }
        Check.is("49 hours", Check.work(c, "again 30[hour;];again 19[hour;];"), 49);
        Check.is("HOUR", c.told(4), 899);
        Check.law(c, "10");
        Check.is("in HOUR 899", Check.work(c, "hour;"), 1);
        Check.is("x", c.told(5), 16);
        Check.is("HOUR", c.told(4), 900);
        Check.is("from 900 on", Check.work(c, "light 0;hour;hour;"), 1);
        Check.is("REFUSED", c.told(10), 2);
        Check.is("HOUR stays", c.told(4), 900);
        Check.is("x stays", c.told(5), 16);
        Check.is("the OVEN's hours stay", c.oven(0, 2), 4);
        Check.is("other STEPS are done", Check.work(c, "cold 0;onions 0 3;quench 0;light 0;"), 4);
        Check.sentence("HOURS go by as by hour (beyond 900, too).");
        Check.is("x in 3 hours", c.ahead(3, 0), 19);
        Check.is("lit in 3 hours", c.ahead(3, 3), 1);
        Check.is("lit in 4 hours", c.ahead(4, 3), 0);
        Check.is("wreck", c.wreck(), 15);
        Check.is("season", c.season(1, 0, 5, 0), 21);
        Check.law(c, "hour - 890");
        Check.is("would at 900", c.would(0, 0, 0, 0, 0, 0, 900), 10);
        // 10 to 19 are one cell, 20 is two
        Check.is("x in 11 hours, by the law's hour", c.ahead(11, 0), 28);
        Check.is("season of 11 hours", c.season(1, 0, 11, 0), 28);
        Check.is("the next time aground, by the law's hour", c.wreck(), 13);
        Check.is("nothing stays changed", c.told(4), 900);
        Check.is("undo", c.undo(), 8);
        Check.is("undo", c.undo(), 7);
        Check.is("undo", c.undo(), 6);
        Check.is("in HOUR 899 anew", Check.work(c, "hour;hour;"), 1);
    }

    private static void hourByHour() {
        Check.sentence("the city DRIFTS; then each lit OVEN is lit an hour less (0: it is out); HOUR is one more.");
        BreadCity c = Check.cityOf("quarter 1 20;oven 0 5;oven 0 5;flour 9;");
        Check.is("work", Check.work(c, "light 0;hour;hour;light 1;hour;hour;"), 6);
        Check.is("the first is out", c.oven(0, 2), 0);
        Check.is("the second is not", c.oven(1, 2), 2);
        Check.is("HOUR", c.told(4), 4);
        // one cell twice, then two cells twice: the first drifts in its last hour, too
        Check.is("x", c.told(5), 21);
        Check.law(c, "hour * 10");
        Check.is("the hour that begins", Check.work(c, "again 3[hour;];") + c.told(5), 33);
    }

    private static void paces() {
        Check.sentence("DRIFT: east by (LEANS of the QUARTERS to side 1 together, less those to side 3) by 10 (cut), "
            + "but 3 at most, -3 at least (west);");
        int[] leans = {0, 1, 9, 10, 19, 20, 29, 30, 39, 40, 99};
        int[] cells = {0, 0, 0, 1, 1, 2, 2, 3, 3, 3, 3};
        BreadCity east = Check.cityOf("quarter 1 1;quarter 3 1;");
        BreadCity north = Check.cityOf("quarter 0 1;quarter 2 1;");
        for (int i = 0; i < leans.length; i++) {
            // side 1 leans so, side 3 not; then the other way round; likewise 0 and 2
            pace(east, "(3 - side) / 2 * " + leans[i], cells[i], 0);
            pace(east, "side / 2 * " + leans[i], -cells[i], 0);
            pace(east, leans[i] + "", 0, 0);
            pace(east, "(side - 2) * " + leans[i], -Math.min(3, 2 * leans[i] / 10), 0);
        }
        Check.sentence("then likewise north by those to side 0 less those to side 2 (south)");
        for (int i = 0; i < leans.length; i++) {
            pace(north, "(2 - side) / 2 * " + leans[i], 0, cells[i]);
            pace(north, "side / 2 * " + leans[i], 0, -cells[i]);
            pace(north, leans[i] + "", 0, 0);
            pace(north, "(1 - side) * " + leans[i], 0, Math.min(3, 2 * leans[i] / 10));
        }
        BreadCity six = Check.cityOf("quarter 1 1;".repeat(6));
        pace(six, "99", 3, 0);
        pace(six, "0 - 99", -3, 0);
        pace(six, "1", 0, 0);
        pace(six, "2", 1, 0);
        BreadCity none = new BreadCity();
        pace(none, "99", 0, 0);
        Check.is("without QUARTERS it lies still", none.wreck(), -1);
    }

    private static void pace(BreadCity c, String law, int east, int north) {
        Check.law(c, law);
        Check.is("east by " + law, c.drift(0), east);
        Check.is("north by " + law, c.drift(1), north);
        Check.work(c, "hour;");
        Check.is("x by " + law, c.told(5), 15 + east);
        Check.is("y by " + law, c.told(6), 15 + north);
        c.undo();
    }

    private static void reckonedAtFirst() {
        Check.sentence("both reckoned as the hour begins.");
        // the OVENS go out by this hour, and HOUR becomes 4: both ways go by what was ahead of that
        BreadCity c = Check.cityOf("quarter 1 20;quarter 0 20;oven 0 5;oven 1 5;");
        Check.work(c, "light 0;light 1;hour;hour;hour;");
        Check.law(c, "bread * (4 - hour) * 2");
        Check.is("east", c.drift(0), 1);
        Check.is("north", c.drift(1), 1);
        Check.work(c, "hour;");
        Check.is("x", c.told(5), 19);
        Check.is("y", c.told(6), 19);
        Check.is("east then", c.drift(0), 0);
    }

    private static void ends() {
        Check.sentence("It goes cell by cell (X by 1 for each east, then Y by 1 for each north); where the next cell is beyond "
            + "0 to 30, or a reed, the rest of that one of both is left out, and it ran AGROUND once more (so by both, each).");
        String[] sides = {"0", "1", "2", "3"};
        int[] dx = {0, 1, 0, -1};
        int[] dy = {1, 0, -1, 0};
        for (int d = 0; d < 4; d++) {
            for (int cells = 0; cells <= 4; cells++) {
                int x = dx[d] > 0 ? 30 - cells : dx[d] < 0 ? cells : 15;
                int y = dy[d] > 0 ? 30 - cells : dy[d] < 0 ? cells : 15;
                BreadCity c = Check.cityOf("quarter " + sides[d] + " 1;city " + x + " " + y + ";");
                Check.law(c, "30");
                int went = Math.min(3, cells);
                Check.is("room to " + d, c.room(d), cells);
                Check.work(c, "hour;");
                Check.is("x by side " + d + " from " + cells, c.told(5), x + went * dx[d]);
                Check.is("y by side " + d + " from " + cells, c.told(6), y + went * dy[d]);
                Check.is("aground by side " + d + " from " + cells, c.told(8), cells < 3 ? 1 : 0);
            }
        }
    }

    private static void reeds() {
        int[] dx = {0, 1, 0, -1};
        int[] dy = {1, 0, -1, 0};
        for (int d = 0; d < 4; d++) {
            for (int cells = 0; cells <= 4; cells++) {
                int x = 15 + (cells + 1) * dx[d];
                int y = 15 + (cells + 1) * dy[d];
                BreadCity c = Check.cityOf("quarter " + d + " 1;reed " + x + " " + y + ";");
                Check.law(c, "30");
                int went = Math.min(3, cells);
                Check.is("room to " + d, c.room(d), cells);
                Check.work(c, "hour;");
                Check.is("x to a reed by side " + d, c.told(5), 15 + went * dx[d]);
                Check.is("y to a reed by side " + d, c.told(6), 15 + went * dy[d]);
                Check.is("aground by side " + d, c.told(8), cells < 3 ? 1 : 0);
            }
        }
        // what is behind the reed is left out, where it could be gone on
        BreadCity c = Check.cityOf("quarter 1 1;reed 16 15;");
        Check.law(c, "30");
        Check.work(c, "hour;hour;hour;");
        Check.is("it goes round no reed", c.told(5), 15);
        Check.is("once more by each hour", c.told(8), 3);
    }

    private static void byBoth() {
        BreadCity corner = Check.cityOf("quarter 1 1;quarter 0 1;city 29 29;");
        Check.law(corner, "30");
        Check.work(corner, "hour;");
        Check.is("x", corner.told(5), 30);
        Check.is("y", corner.told(6), 30);
        Check.is("aground by both, each", corner.told(8), 2);
        Check.work(corner, "hour;hour;");
        Check.is("aground by both, each", corner.told(8), 6);
        // first X, then Y: north of where it lay is a reed, east of where it comes to is one, too
        BreadCity c = Check.cityOf("quarter 1 1;quarter 0 1;reed 15 16;reed 16 17;");
        Check.law(c, "20");
        Check.work(c, "hour;");
        Check.is("x ahead of y", 100 * c.told(5) + c.told(6), 1717);
        Check.is("aground by none", c.told(8), 0);
        BreadCity e = Check.cityOf("quarter 1 1;quarter 0 1;reed 17 15;reed 16 17;");
        Check.law(e, "20");
        Check.work(e, "hour;");
        Check.is("the rest of one is left out, of the other, too", 100 * e.told(5) + e.told(6), 1616);
        Check.is("aground by both", e.told(8), 2);
        BreadCity f = Check.cityOf("quarter 1 1;quarter 0 1;reed 16 15;");
        Check.law(f, "20");
        Check.work(f, "hour;");
        Check.is("the other one is not left out", 100 * f.told(5) + f.told(6), 1517);
        Check.is("aground by one", f.told(8), 1);
        BreadCity g = Check.cityOf("quarter 1 1;quarter 0 1;reed 16 16;");
        Check.law(g, "10");
        Check.work(g, "hour;");
        Check.is("X, and no Y", 100 * g.told(5) + g.told(6), 1615);
    }

    private static void sixteenWorks() {
        Check.sentence("-20 ahead of that (nothing is read, there is no FAULT, the TAPE is empty then): 16 WORKS are there "
            + "that were not undone.");
        for (String text : new String[] {"cold 0;", "x", "", "cold 99;"}) {
            BreadCity one = Twin.withSixteenWorks();
            one.law(0);
            int n = Check.tell(one, text);
            Check.is("a 17th <" + text + ">", one.work(n), -20);
            Check.is("no FAULT by <" + text + ">", one.fault(), -1);
            Check.is("the TAPE is empty", one.count(1), 0);
            Check.is("WORKS", one.count(2), 16);
            // a BOOK like the one that is there has no FAULT either
            BreadCity other = Twin.withSixteenWorks();
            other.law(0);
            Check.book(other, "1 17 16;12 17 17;");
            Twin.alike("a 17th <" + text + ">", one, other);
        }
        BreadCity c = Check.cityOf(BOG);
        for (int i = 1; i <= 15; i++) {
            Check.is("work", c.work(0), 0);
            Check.is("WORKS", c.count(2), i);
        }
        Check.is("a faulty one is none", Check.work(c, "x"), -9);
        Check.is("the 16th", Check.work(c, "cold 0;"), 1);
        Check.is("the 17th", Check.work(c, "cold 0;"), -20);
        Check.is("the 17th, again", Check.work(c, "cold 0;"), -20);
        Check.is("undone", c.undo(), 15);
        Check.is("one of which nothing is done counts, too", Check.work(c, "quench 0;"), 0);
        Check.is("the 17th", Check.work(c, "cold 0;"), -20);
        Check.is("other texts are read", Check.law(c, "1") + Check.book(c, "1 1 1;"), 2);
        Check.is("a BOG is read, and no WORKS are there then", Check.bog(c, BOG), 3);
        Check.is("a WORK", Check.work(c, "cold 0;"), 1);
    }

    private static void undo() {
        Check.sentence("The latest WORK that was done is undone: how many are left; -1: there is none.");
        BreadCity c = Check.cityOf(BOG);
        Check.is("none", c.undo(), -1);
        for (int i = 1; i <= 16; i++) {
            Check.is("work", Check.work(c, "onions 0 " + i + ";hour;"), 2);
        }
        for (int i = 15; i >= 0; i--) {
            Check.is("left", c.undo(), i);
            Check.is("onions", c.quarter(0, 3), i);
            Check.is("HOUR", c.told(4), i);
            Check.is("WORKS", c.count(2), i);
        }
        Check.is("none", c.undo(), -1);
        Check.is("WORKS", c.count(2), 0);
        Check.work(c, "cold 0;");
        Check.work(c, "x");
        Check.is("one with a FAULT is none that was done", c.undo(), 0);
        Check.is("cold", c.quarter(0, 4), 0);
        Check.work(c, "cold 0;");
        c.work(0);
        Check.is("one of nothing is one", c.undo(), 1);
        Check.is("cold", c.quarter(0, 4), 1);
    }

    /** Sixteen WORKS that change everything: all is as it was ahead of each, by undo() and by IMAGES with WORKS of their own. */
    private static void allComesBack() {
        Check.sentence("An IMAGE of all that WORK changes, and of the WORKS that can be undone");
        BreadCity c = Check.cityOf("quarter 1 20;quarter 0 9;oven 0 5;oven 1 9;oven 0 3;city 3 20;reed 8 20;reed 9 24;flour 80;");
        Check.law(c, "bread * 2 + hour % 7 * 3 - onions / 9");
        int[][] ahead = new int[17][];
        int images = 0;
        for (int i = 0; i < 16; i++) {
            ahead[i] = all(c);
            Check.report(Check.work(c, "light " + i % 3 + ";hour;onions " + i % 2 + " " + (i + 1) + ";cold " + i / 2 % 2 + ";again "
                + i % 4 + "[light " + (i + 1) % 3 + ";quench " + i % 3 + ";];hour;") >= 4, "a WORK");
            if (i == 4 || i == 9 || i == 15) {
                images++;
                Check.is("image", c.image(), images);
            }
        }
        ahead[16] = all(c);
        Check.report(c.told(8) > 1, "it ran aground");
        backTo(c, ahead, 16);
        for (int works : new int[] {16, 10, 5}) {
            // WORKS of another kind stand where the IMAGE's own come back
            for (int i = 0; i < 16; i++) {
                Check.work(c, "onions 1 " + (90 - i) + ";hour;");
            }
            images--;
            Check.is("restore", c.restore(), images);
            Check.is("WORKS", c.count(2), works);
            same("IMAGE of " + works, c, ahead[works]);
            backTo(c, ahead, works);
        }
    }

    private static void backTo(BreadCity c, int[][] ahead, int works) {
        Check.sentence("The latest WORK that was done is undone: how many are left; -1: there is none.");
        for (int i = works - 1; i >= 0; i--) {
            Check.is("undo", c.undo(), i);
            same("undo to " + i, c, ahead[i]);
        }
        Check.is("undo", c.undo(), -1);
        same("undo of none", c, ahead[0]);
    }

    private static void same(String by, BreadCity c, int[] due) {
        int[] have = all(c);
        for (int i = 0; i < due.length; i++) {
            Check.is("thing " + i + " by " + by, have[i], due[i]);
        }
    }

    private static void refusedSteps() {
        Check.sentence("10 STEPS REFUSED by the latest WORK (0 ahead of any, behind undo(), restore())");
        BreadCity c = Check.cityOf(BOG);
        Check.is("ahead of any", c.told(10), 0);
        Check.work(c, "quench 0;quench 0;");
        Check.is("2", c.told(10), 2);
        Check.work(c, "hour;");
        Check.is("by the latest one", c.told(10), 0);
        Check.work(c, "quench 0;");
        Check.is("1", c.told(10), 1);
        c.image();
        Check.is("an IMAGE leaves it", c.told(10), 1);
        Check.law(c, "1");
        Check.book(c, "1 1 1;");
        Check.is("other texts leave it", c.told(10), 1);
        Check.is("undo", c.undo(), 2);
        Check.is("behind undo()", c.told(10), 0);
        Check.work(c, "quench 0;quench 0;quench 0;");
        Check.is("3", c.told(10), 3);
        Check.is("restore", c.restore(), 0);
        Check.is("behind restore()", c.told(10), 0);
        Check.work(c, "again 30[quench 0;quench 0;quench 0;quench 0;quench 0;quench 0;quench 0;];");
        Check.is("199 and the again are 200", c.told(10), 199);
        c.bog(0);
        Check.is("ahead of any of a new BOG", c.told(10), 0);
    }

    private static void images() {
        Check.sentence("An IMAGE of all that WORK changes, and of the WORKS that can be undone: how many there are; -1: there are 3.");
        BreadCity c = Check.cityOf(BOG);
        Check.is("restore of none", c.restore(), -1);
        for (int i = 1; i <= 3; i++) {
            Check.is("image", c.image(), i);
            Check.is("IMAGES", c.count(0), i);
            Check.work(c, "onions 0 " + i + ";");
        }
        Check.is("a fourth", c.image(), -1);
        Check.is("IMAGES", c.count(0), 3);
        Check.sentence("All is as in the latest IMAGE, which is gone: how many are left; -1: there is none.");
        for (int i = 2; i >= 0; i--) {
            Check.is("restore", c.restore(), i);
            Check.is("IMAGES", c.count(0), i);
            Check.is("onions", c.quarter(0, 3), i);
            Check.is("WORKS", c.count(2), i);
        }
        Check.is("restore of none", c.restore(), -1);
        Check.is("IMAGES", c.count(0), 0);
        Check.is("image anew", c.image(), 1);
        Check.bog(c, "x");
        Check.is("a faulty BOG leaves it", c.count(0), 1);
        c.bog(0);
        Check.is("a BOG has no IMAGES", c.count(0), 0);
        Check.is("restore of none", c.restore(), -1);
    }

    private static void imagesKeepAll() {
        Check.sentence("An IMAGE of all that WORK changes, and of the WORKS that can be undone");
        // one is changed in every way behind its IMAGE, the other is not
        BreadCity one = Twin.rich();
        BreadCity other = Twin.rich();
        one.law(0);
        other.law(0);
        one.restore();
        other.restore();
        one.image();
        one.undo();
        Check.work(one, "light 3;light 2;quench 1;cold 0;cold 1;cold 2;onions 0 9;onions 1 9;onions 2 9;hour;hour;");
        for (int i = 0; i < 14; i++) {
            Check.work(one, "hour;cold 0;");
        }
        Check.is("16 WORKS", one.count(2), 16);
        Check.is("restore", one.restore(), 1);
        one.law(0);
        other.law(0);
        Twin.alike("restore", one, other);
        Check.sentence("`int restore()`: All is as in the latest IMAGE");
        BreadCity c = Check.cityOf(BOG);
        c.image();
        Check.law(c, "7");
        Check.book(c, "1 1 1;2 2 2;");
        Check.law(c, "7 x");
        c.feed(0, 0, 0, 0, 0);
        Check.is("restore", c.restore(), 0);
        Check.is("no WORK changes the LAW: it stays", c.would(0, 0, 0, 0, 0, 0, 0), 7);
        Check.is("nor the BOOK", c.told(9), 2);
        Check.is("nor the FAULT", c.fault(), 2);
        Check.is("nor the TAPE", c.count(1), 20);
    }
}
