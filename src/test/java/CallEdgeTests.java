/** The sentences about a new object, the TAPE, what a text answers, and what is told (promises 1 to 13): their edges. */
public final class CallEdgeTests {
    private static final String ALL = "quarter 0 99;quarter 1 98;quarter 2 97;quarter 3 96;quarter 0 1;quarter 1 2;"
        + "oven 5 9;oven 0 8;oven 5 7;oven 1 6;oven 5 5;oven 2 4;oven 5 3;oven 3 1;"
        + "mooring 0 0;mooring 30 30;mooring 0 30;mooring 30 0;mooring 15 15;mooring 16 14;" + "reed 1 1;".repeat(12)
        + "city 15 15;flour 99;";
    private static final String LIGHT_ALL = "light 0;light 1;light 2;light 3;light 4;light 5;light 6;light 7;";

    public static void main(String[] args) {
        newObject();
        newObjectAsBog();
        feed();
        feedOrder();
        feedFull();
        firstBytes();
        bogForgets();
        bogStays();
        workAnswers();
        workOfNothing();
        fault();
        told();
        toldAtMost();
        quarter();
        quarterSix();
        oven();
        mooring();
        counts();
        Check.end("CallEdgeTests");
    }

    // Promise 1
    private static void newObject() {
        Check.sentence("`BreadCity()`: A BOG without CLAUSES.");
        BreadCity c = new BreadCity();
        int[] told = {0, 0, 0, 0, 0, 15, 15, 9, 0, 0, 0, 0};
        for (int i = 0; i < told.length; i++) {
            Check.is("told(" + i + ")", c.told(i), told[i]);
        }
        for (int i = 0; i < 3; i++) {
            Check.is("count(" + i + ")", c.count(i), 0);
        }
        Check.is("status(0)", c.status(0), 0);
        Check.is("status(1)", c.status(1), 0);
        Check.is("fault", c.fault(), -1);
        for (int x = 0; x <= 30; x++) {
            for (int y = 0; y <= 30; y++) {
                Check.is("reed " + x + " " + y, c.reed(x, y), 0);
            }
        }
        Check.is("the LAW", c.would(50, 21, 8, 72, 7, 3, 900), 98);
    }

    private static void newObjectAsBog() {
        BreadCity read = Twin.rich();
        read.bog(0);
        Check.tell(read, Twin.TAPE);
        BreadCity made = new BreadCity();
        Check.tell(made, Twin.TAPE);
        Twin.alike("a new object, and an empty text behind all else", made, read);
        BreadCity used = new BreadCity();
        Check.is("a WORK", Check.work(used, "hour;again 2[hour;];"), 3);
        Check.is("an IMAGE", used.image(), 1);
        Check.is("a LAW", Check.law(used, "5"), 1);
        Check.is("a BOOK", Check.book(used, "3 15 15;"), 1);
        Check.is("fits", used.fits(0), 1);
        Check.is("another object has nothing of it", new BreadCity().told(4), 0);
    }

    // Promise 2
    private static void feed() {
        Check.sentence("Twenty bytes come on the TAPE, of each number the highest first: how many there are;");
        BreadCity c = new BreadCity();
        for (int i = 1; i <= 30; i++) {
            Check.is("feed " + i, c.feed(i, -i, Integer.MIN_VALUE, Integer.MAX_VALUE, 0), 20 * i);
            Check.is("bytes", c.count(1), 20 * i);
        }
    }

    private static void feedOrder() {
        // each byte of each number is its own digit: whatever stands elsewhere makes another number
        for (int place = 0; place < 20; place++) {
            byte[] bytes = "flour               ".getBytes(java.nio.charset.StandardCharsets.ISO_8859_1);
            BreadCity c = new BreadCity();
            if (place >= 5) {
                bytes[place] = (byte) ('0' + place % 10);
            }
            Check.is("feed", c.feed(number(bytes, 0), number(bytes, 4), number(bytes, 8), number(bytes, 12), number(bytes, 16)), 20);
            c.feed(';' << 24 | ' ' << 16 | ' ' << 8 | ' ', 0, 0, 0, 0);
            Check.is("bog with a digit at " + place, c.bog(24), place < 5 ? -9 : 0);
            Check.is("fault", c.fault(), place < 5 ? 20 : -1);
            Check.is("flour", c.told(7), place < 5 ? 9 : place % 10);
        }
        for (int place = 0; place < 20; place++) {
            int[] five = {0x20202020, 0x20202020, 0x20202020, 0x20202020, 0x20202020};
            five[place / 4] |= 255 << 24 - 8 * (place % 4);
            BreadCity c = new BreadCity();
            c.feed(five[0], five[1], five[2], five[3], five[4]);
            Check.is("a byte 255 at " + place, c.bog(20), -9);
            Check.is("its place", c.fault(), place);
        }
    }

    private static int number(byte[] bytes, int from) {
        return bytes[from] << 24 | bytes[from + 1] << 16 | bytes[from + 2] << 8 | bytes[from + 3];
    }

    private static void feedFull() {
        Check.sentence("NONE, doing nothing, if there would be more than 600.");
        BreadCity c = new BreadCity();
        for (int i = 0; i < 30; i++) {
            c.feed(0x20202020, 0x20202020, 0x20202020, 0x20202020, 0x20202020);
        }
        for (int i = 0; i < 3; i++) {
            Check.is("a 31st", c.feed(-1, -1, -1, -1, -1), -1);
            Check.is("600", c.count(1), 600);
        }
        Check.is("no refusal", c.status(0) + c.status(1), 0);
        Check.is("600 blanks", c.bog(600), 0);
        Check.is("empty then", c.feed(-1, -1, -1, -1, -1), 20);
    }

    // Promise 3
    private static void firstBytes() {
        Check.sentence("The first n bytes of the TAPE (empty then) are the BOG");
        for (int n = 0; n <= 20; n++) {
            BreadCity c = new BreadCity();
            Check.tell(c, "flour 1;flour 2;    ");
            boolean whole = n == 0 || n == 8 || n >= 16;
            Check.is("the first " + n, c.bog(n), whole ? 0 : -9);
            Check.is("flour by " + n, c.told(7), n >= 16 ? 2 : n == 8 ? 1 : 9);
            Check.is("empty then", c.count(1), 0);
        }
    }

    private static void bogForgets() {
        Check.sentence("are the BOG (no LAW, BOOK, IMAGES, nothing to undo): how many OVENS;");
        BreadCity c = Twin.rich();
        c.law(0);
        Check.is("the greatest number", Check.bog(c, ALL), 8);
        Check.is("no LAW", c.would(7, 30, 3, 5, 2, 1, 8), 19);
        Check.is("no BOOK", c.told(9), 0);
        Check.is("no line", c.fits(0), 256);
        Check.is("no IMAGES", c.count(0), 0);
        Check.is("no IMAGES", c.restore(), -1);
        Check.is("nothing to undo", c.count(2), 0);
        Check.is("nothing to undo", c.undo(), -1);
        Check.is("what was asked ahead is gone", c.pilot(4, 12), 0);
        Check.is("refusals stay counted", 10 * c.status(0) + c.status(1), 21);
        Check.is("one OVEN", Check.bog(c, "quarter 0 1;oven 0 1;"), 1);
        Check.is("none", Check.bog(c, "quarter 0 1;"), 0);
        Check.is("the same text twice", Check.bog(c, ALL) + Check.bog(c, ALL), 16);
        Check.bog(c, "reed 0 0;reed 30 0;reed 0 30;reed 30 30;reed 7 8;");
        c.bog(0);
        for (int cell = 0; cell < 961; cell++) {
            Check.is("no reed of before at " + cell, c.reed(cell / 31, cell % 31), 0);
        }
    }

    private static void bogStays() {
        Check.sentence("or the FAULT less 10 (all stays).");
        String[] texts = {"x", "flour 100;", "flour 1;".repeat(61), "quarter 0 1;oven 0 1;mooring 1 1;reed 1 1;city 1 1;flour 1;x"};
        int[] due = {-9, -8, -7, -9};
        int[] place = {0, 6, 480, 59};
        for (int i = 0; i < texts.length; i++) {
            BreadCity one = Twin.rich();
            BreadCity other = Twin.rich();
            one.law(0);
            other.law(0);
            Check.is("bog <" + texts[i] + ">", Check.bog(one, texts[i]), due[i]);
            Check.is("fault", one.fault(), place[i]);
            one.law(0);
            other.law(0);
            Twin.alike("bog <" + texts[i] + ">", one, other);
        }
    }

    // Promise 5
    private static void workAnswers() {
        Check.sentence("how many STEPS were done (agains not counted, nor REFUSED ones);");
        BreadCity c = Check.cityOf("quarter 1 1;oven 0 1;flour 2;");
        Check.is("one", Check.work(c, "light 0;"), 1);
        Check.is("REFUSED", Check.work(c, "light 0;"), 0);
        Check.is("an again of none", Check.work(c, "again 30[];"), 0);
        Check.is("one of two", Check.work(c, "again 2[quench 0;];"), 1);
        Check.is("in agains in agains", Check.work(c, "again 2[again 3[cold 0;];hour;];"), 8);
        Check.is("every kind", Check.work(c, "light 0;quench 0;onions 0 1;cold 0;hour;"), 5);
        Check.is("every kind that can be REFUSED", Check.work(c, "light 0;quench 0;onions 0 1;"), 0);
        Check.is("REFUSED", c.told(10), 3);
        Check.sentence("or the FAULT less 10 (none is);");
        String[] texts = {"cold 0;hour;x", "cold 0;hour;cold 1;", "cold 0;" + "again 1[".repeat(7)};
        int[] due = {-9, -8, -7};
        for (int i = 0; i < texts.length; i++) {
            Check.is("work <" + texts[i] + ">", Check.work(c, texts[i]), due[i]);
            Check.is("no cold", c.quarter(0, 4), 1);
            Check.is("HOUR", c.told(4), 3);
            Check.is("WORKS", c.count(2), 7);
            Check.is("STEPS REFUSED by the latest WORK", c.told(10), 3);
        }
    }

    private static void workOfNothing() {
        BreadCity c = new BreadCity();
        for (int i = 1; i <= 16; i++) {
            Check.is("nothing", c.work(0), 0);
            Check.is("WORKS", c.count(2), i);
        }
        Check.is("a 17th of nothing", c.work(0), -20);
        for (int i = 15; i >= 0; i--) {
            Check.is("undo", c.undo(), i);
        }
    }

    // Promise 7
    private static void fault() {
        Check.sentence("The place of the FAULT of the latest text; NONE without.");
        BreadCity c = new BreadCity();
        Check.is("ahead of any", c.fault(), -1);
        Check.law(c, "");
        Check.is("the first byte", c.fault(), 0);
        Check.bog(c, " ".repeat(599) + "x");
        Check.is("the last byte", c.fault(), 599);
        Check.bog(c, "flour" + " ".repeat(595));
        Check.is("the length", c.fault(), 600);
        Check.bog(c, "");
        Check.is("without", c.fault(), -1);
        Check.law(c, "1".repeat(150));
        Check.is("a number's first byte", c.fault(), 0);
        Check.is("it is asked twice", c.fault(), 0);
        Check.law(c, "1");
        Check.is("without, by a LAW", c.fault(), -1);
        Check.book(c, "1 1");
        Check.is("by a BOOK", c.fault(), 3);
        Check.book(c, "1 1 1;");
        Check.is("without, by a BOOK", c.fault(), -1);
        Check.work(c, "hour");
        Check.is("by a WORK", c.fault(), 4);
        Check.unfit("a text that is not read", () -> c.bog(1));
        Check.is("stays", c.fault(), 4);
        c.feed(0, 0, 0, 0, 0);
        c.image();
        c.restore();
        c.undo();
        Check.is("stays by what is no text", c.fault(), 4);
        c.work(0);
        Check.is("without, by a WORK", c.fault(), -1);
    }

    // Promise 9
    private static void told() {
        Check.sentence("0 QUARTERS, 1 OVENS, 2 reeds (told ones; twice counts twice), 3 MOORINGS, 4 the HOUR, 5 X, 6 Y, "
            + "7 flour that is left, 8 how often it ran AGROUND, 9 lines of the BOOK,");
        BreadCity c = Check.cityOf(ALL);
        int[] due = {6, 8, 12, 6, 0, 15, 15, 99, 0, 0, 0, 0};
        for (int i = 0; i < due.length; i++) {
            Check.is("told(" + i + ")", c.told(i), due[i]);
        }
        BreadCity twice = Check.cityOf("reed 3 4;reed 3 4;mooring 3 4;mooring 3 4;quarter 0 1;quarter 0 1;");
        Check.is("a reed twice", twice.told(2), 2);
        Check.is("a MOORING twice", twice.told(3), 2);
        Check.is("a QUARTER twice", twice.told(0), 2);
        Check.is("the reed", twice.reed(3, 4) + twice.reed(4, 3), 1);
        Check.book(c, "12 0 30;");
        Check.is("one line", c.told(9), 1);
        Check.book(c, "1 0 0;2 0 0;3 0 0;4 0 0;5 0 0;6 0 0;");
        Check.is("six lines", c.told(9), 6);
        Check.book(c, "1 0 0;1 0 0;");
        Check.is("a BOOK with a FAULT is none", c.told(9), 6);
        c.book(0);
        Check.is("no line", c.told(9), 0);
    }

    private static void toldAtMost() {
        Check.sentence("11 lit OVENS (bits).");
        BreadCity c = Check.cityOf(ALL);
        for (int o = 0; o < 8; o++) {
            Check.work(c, "light " + o + ";");
            Check.is("lit to " + o, c.told(11), (2 << o) - 1);
            Check.is("flour", c.told(7), 98 - o);
        }
        Check.law(c, "99 * (2 - side / 2 * 2)");
        // east by 198, and no more than the end: 15 cells are 5 hours; north likewise
        Check.work(c, "again 5[hour;];");
        Check.is("x", c.told(5), 30);
        Check.is("y", c.told(6), 30);
        Check.is("aground", c.told(8), 0);
        Check.is("lit no more", c.told(11), 0);
        Check.work(c, "again 30[again 6[hour;];];");
        Check.is("aground by both in each of 170 hours", c.told(8), 340);
        Check.is("HOUR", c.told(4), 175);
        Check.is("x", c.told(5), 30);
    }

    // Promise 10
    private static void quarter() {
        Check.sentence("Of a QUARTER: 0 D, 1 noses as told, 2 bread, 3 onions, 4 1 it has a cold, 0 not, 5 LEAN, 6 OVENS in it (bits).");
        BreadCity c = Check.cityOf("quarter 3 99;quarter 0 1;" + "oven 0 9;".repeat(8) + "flour 99;");
        quarter(c, 0, new int[] {3, 99, 0, 0, 0, 0, 255});
        quarter(c, 1, new int[] {0, 1, 0, 0, 0, 0, 0});
        Check.work(c, LIGHT_ALL + "onions 0 99;onions 1 99;cold 0;cold 1;");
        // 72 times 49 by 10 less 99 is 253
        quarter(c, 0, new int[] {3, 99, 72, 99, 1, 99, 255});
        quarter(c, 1, new int[] {0, 1, 0, 99, 1, -99, 0});
        Check.work(c, "hour;hour;hour;hour;");
        quarter(c, 0, new int[] {3, 99, 0, 99, 1, -99, 255});
        Check.work(c, "onions 0 0;onions 1 0;cold 0;cold 1;");
        quarter(c, 0, new int[] {3, 99, 0, 0, 0, 0, 255});
        quarter(c, 1, new int[] {0, 1, 0, 0, 0, 0, 0});
    }

    private static void quarter(BreadCity c, int quarter, int[] due) {
        for (int i = 0; i < due.length; i++) {
            Check.is("quarter(" + quarter + ", " + i + ")", c.quarter(quarter, i), due[i]);
        }
    }

    private static void quarterSix() {
        BreadCity c = Check.cityOf(ALL);
        Check.work(c, LIGHT_ALL);
        int[] ovens = {2, 8, 32, 128, 0, 85};
        int[] bread = {8, 6, 4, 1, 0, 24};
        int[] lean = {79, 58, 38, 9, 0, 4};
        for (int q = 0; q < 6; q++) {
            Check.is("OVENS in " + q, c.quarter(q, 6), ovens[q]);
            Check.is("bread of " + q, c.quarter(q, 2), bread[q]);
            Check.is("LEAN of " + q, c.quarter(q, 5), lean[q]);
        }
    }

    // Promise 11
    private static void oven() {
        Check.sentence("Of an OVEN: 0 QUARTER, 1 S, 2 for how many hours it is lit yet (0: not), 3 how often it was lit by now.");
        BreadCity c = Check.cityOf(ALL);
        int[] homes = {5, 0, 5, 1, 5, 2, 5, 3};
        int[] strong = {9, 8, 7, 6, 5, 4, 3, 1};
        for (int o = 0; o < 8; o++) {
            Check.is("QUARTER of " + o, c.oven(o, 0), homes[o]);
            Check.is("S of " + o, c.oven(o, 1), strong[o]);
            Check.is("not lit", c.oven(o, 2), 0);
            Check.is("never lit", c.oven(o, 3), 0);
        }
        for (int left = 4; left >= 0; left--) {
            Check.work(c, left == 4 ? "light 7;" : "hour;");
            Check.is("hours yet", c.oven(7, 2), left);
            Check.is("how often", c.oven(7, 3), 1);
            Check.is("another one is not lit", c.oven(6, 2) + c.oven(6, 3), 0);
        }
        Check.is("lit and quenched 98 times", Check.work(c, "again 30[light 0;quench 0;];again 30[light 0;quench 0;];"
            + "again 30[light 0;quench 0;];again 8[light 0;quench 0;];"), 196);
        Check.is("how often", c.oven(0, 3), 98);
        Check.is("no flour is left", c.told(7), 0);
        Check.is("REFUSED ones count not", Check.work(c, "light 0;") + c.oven(0, 3), 98);
        Check.is("undo", c.undo(), 6);
        Check.is("undo", c.undo(), 5);
        Check.is("how often", c.oven(0, 3), 0);
    }

    // Promise 12
    private static void mooring() {
        Check.sentence("Of a MOORING: 0 X, 1 Y, 2 how far X and Y of both are apart");
        BreadCity c = Check.cityOf(ALL);
        int[] x = {0, 30, 0, 30, 15, 16};
        int[] y = {0, 30, 30, 0, 15, 14};
        int[] far = {30, 30, 30, 30, 0, 2};
        for (int m = 0; m < 6; m++) {
            Check.is("X of " + m, c.mooring(m, 0), x[m]);
            Check.is("Y of " + m, c.mooring(m, 1), y[m]);
            Check.is("how far " + m, c.mooring(m, 2), far[m]);
        }
        Check.law(c, "99 * (2 - side / 2 * 2)");
        Check.work(c, "hour;");
        int[] then = {36, 24, 30, 30, 6, 6};
        for (int m = 0; m < 6; m++) {
            Check.is("how far then " + m, c.mooring(m, 2), then[m]);
        }
    }

    // Promise 40
    private static void counts() {
        Check.sentence("0 IMAGES, 1 bytes of the TAPE, 2 WORKS that can be undone; NONE for others.");
        BreadCity c = Twin.withSixteenWorks();
        c.image();
        while (c.feed(0, 0, 0, 0, 0) >= 0) {
            Check.report(c.count(1) <= 600, "it ends");
        }
        Check.is("3 IMAGES", c.count(0), 3);
        Check.is("600 bytes", c.count(1), 600);
        Check.is("16 WORKS", c.count(2), 16);
        c.bog(0);
        Check.is("none of all", c.count(0) + c.count(1) + c.count(2), 0);
    }
}
