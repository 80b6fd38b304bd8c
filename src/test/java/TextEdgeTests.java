/** The sentences under "Terms" that say what a text may be: the last that is taken, the first that is not. */
public final class TextEdgeTests {
    private static final int CANNOT = 1;
    private static final int NUMBER = 2;
    private static final int TOO_MANY = 3;

    private interface Reading {
        int of(BreadCity city, int n);
    }

    public static void main(String[] args) {
        bogLength();
        quarters();
        ovens();
        reedsAndMoorings();
        cityAndFlour();
        lawLength();
        leans();
        lawShape();
        lawWords();
        wraps();
        divisions();
        workLength();
        stepNumbers();
        agains();
        bookLength();
        bookLines();
        numbers();
        words();
        blanks();
        faultsOne();
        faultsTwo();
        faultsThree();
        openOnes();
        firstAndLeast();
        Check.end("TextEdgeTests");
    }

    private static String blanks(int many) { return " ".repeat(many); }

    /** The FAULT and its place; the TAPE is empty then, and all else stays. */
    private static void faulty(Reading reading, String text, int kind, int place) {
        BreadCity one = Twin.rich();
        BreadCity other = Twin.rich();
        one.law(0);
        int n = Check.tell(one, text);
        Check.is("<" + text + ">", reading.of(one, n), kind - 10);
        Check.is("<" + text + "> fault()", one.fault(), place);
        Check.is("<" + text + "> count(1)", one.count(1), 0);
        Check.is("<" + text + "> status(1)", one.status(1), other.status(1));
        one.law(0);
        other.law(0);
        Twin.alike("<" + text + ">", one, other);
    }

    private static void bog(String text, int kind, int place) { faulty(BreadCity::bog, text, kind, place); }

    private static void law(String text, int kind, int place) { faulty(BreadCity::law, text, kind, place); }

    private static void work(String text, int kind, int place) { faulty(BreadCity::work, text, kind, place); }

    private static void book(String text, int kind, int place) { faulty(BreadCity::book, text, kind, place); }

    /** A BOG that is taken: how many OVENS, no FAULT, an empty TAPE. */
    private static BreadCity sound(String text, int ovens) {
        BreadCity c = new BreadCity();
        Check.is("bog <" + text + ">", Check.bog(c, text), ovens);
        Check.is("bog <" + text + "> fault()", c.fault(), -1);
        Check.is("bog <" + text + "> count(1)", c.count(1), 0);
        return c;
    }

    private static void bogLength() {
        Check.sentence("A BOG is a text of up to 600 bytes: { CLAUSE \";\" }, at most 60.");
        Check.is("an empty text", sound("", 0).told(7), 9);
        String longest = "flour 1;".repeat(59) + "flour" + blanks(600 - 472 - 7) + "7;";
        Check.is("600 bytes", longest.length(), 600);
        Check.is("600 bytes", sound(longest, 0).told(7), 7);
        bog(longest.substring(0, 599) + " ", CANNOT, 600);
        BreadCity c = new BreadCity();
        Check.tell(c, longest);
        Check.is("599 of 600 bytes", c.bog(599), -9);
        Check.is("at the length", c.fault(), 599);
        Check.is("59 CLAUSES", sound("flour 1;".repeat(58) + "flour 2;", 0).told(7), 2);
        Check.is("60 CLAUSES", sound("flour 1;".repeat(59) + "flour 3;", 0).told(7), 3);
        bog("flour 1;".repeat(60) + "flour 4;", TOO_MANY, 480);
        bog("flour 1;".repeat(60) + "city 4 4;", TOO_MANY, 480);
    }

    private static void quarters() {
        Check.sentence("CLAUSE: \"quarter\" D N (QUARTERS, numbered from 0 on, 6 at most: to side D, 0 north, 1 east, 2 south, 3 west, "
            + "with N noses, 1 to 99)");
        Check.is("no QUARTERS", sound("", 0).told(0), 0);
        BreadCity six = sound("quarter 0 1;quarter 1 2;quarter 2 98;quarter 3 99;quarter 2 50;quarter 1 7;", 0);
        int[] sides = {0, 1, 2, 3, 2, 1};
        int[] noses = {1, 2, 98, 99, 50, 7};
        Check.is("6 QUARTERS", six.told(0), 6);
        for (int q = 0; q < 6; q++) {
            Check.is("side of " + q, six.quarter(q, 0), sides[q]);
            Check.is("noses of " + q, six.quarter(q, 1), noses[q]);
        }
        bog("quarter 0 1;".repeat(6) + "quarter 0 1;", TOO_MANY, 72);
        bog("quarter 4 1;", NUMBER, 8);
        bog("quarter 0 0;", NUMBER, 10);
        bog("quarter 0 100;", NUMBER, 10);
        int[] east = {0, 1, 0, -1};
        int[] north = {1, 0, -1, 0};
        for (int d = 0; d < 4; d++) {
            BreadCity c = sound("quarter " + d + " 1;", 0);
            Check.law(c, "10");
            Check.is("east to side " + d, c.drift(0), east[d]);
            Check.is("north to side " + d, c.drift(1), north[d]);
        }
    }

    private static void ovens() {
        Check.sentence("\"oven\" Q S (OVENS likewise, 8: in QUARTER Q, told ahead, STRONG S, 1 to 9)");
        Check.is("no OVENS", sound("quarter 0 1;", 0).told(1), 0);
        BreadCity c = sound("quarter 0 1;oven 0 1;quarter 0 1;oven 1 9;oven 0 2;oven 1 8;oven 0 3;oven 1 7;oven 0 4;oven 1 6;", 8);
        int[] strong = {1, 9, 2, 8, 3, 7, 4, 6};
        Check.is("8 OVENS", c.told(1), 8);
        for (int o = 0; o < 8; o++) {
            Check.is("QUARTER of " + o, c.oven(o, 0), o % 2);
            Check.is("STRONG of " + o, c.oven(o, 1), strong[o]);
        }
        bog("quarter 0 1;" + "oven 0 1;".repeat(8) + "oven 0 1;", TOO_MANY, 84);
        bog("oven 0 1;", NUMBER, 5);
        bog("oven 0 1;quarter 0 1;", NUMBER, 5);
        bog("quarter 0 1;oven 1 1;quarter 0 1;", NUMBER, 17);
        bog("quarter 0 1;oven 0 0;", NUMBER, 19);
        bog("quarter 0 1;oven 0 10;", NUMBER, 19);
        Check.is("the last of six QUARTERS", sound("quarter 0 1;".repeat(6) + "oven 5 1;", 1).oven(0, 0), 5);
        bog("quarter 0 1;".repeat(6) + "oven 6 1;", NUMBER, 77);
    }

    private static void reedsAndMoorings() {
        Check.sentence("\"reed\" X Y (X, Y 0 to 30; 12 such at most)");
        Check.is("no reed", sound("", 0).told(2), 0);
        Check.is("12 reeds", sound("reed 0 0;".repeat(12), 0).told(2), 12);
        bog("reed 0 0;".repeat(12) + "reed 0 0;", TOO_MANY, 108);
        BreadCity c = sound("reed 0 30;reed 30 0;", 0);
        Check.is("at 0 30", c.reed(0, 30), 1);
        Check.is("at 30 0", c.reed(30, 0), 1);
        Check.is("at 0 0", c.reed(0, 0), 0);
        bog("reed 31 0;", NUMBER, 5);
        bog("reed 0 31;", NUMBER, 7);
        Check.sentence("\"mooring\" X Y (MOORINGS numbered likewise, 6)");
        Check.is("no MOORING", sound("", 0).told(3), 0);
        BreadCity d = sound("mooring 0 30;mooring 30 0;mooring 1 2;mooring 3 4;mooring 5 6;mooring 7 8;", 0);
        int[] places = {30, 3000, 102, 304, 506, 708};
        Check.is("6 MOORINGS", d.told(3), 6);
        for (int m = 0; m < 6; m++) {
            Check.is("place of " + m, 100 * d.mooring(m, 0) + d.mooring(m, 1), places[m]);
        }
        bog("mooring 0 0;".repeat(6) + "mooring 0 0;", TOO_MANY, 72);
        bog("mooring 31 0;", NUMBER, 8);
        bog("mooring 0 31;", NUMBER, 10);
    }

    private static void cityAndFlour() {
        Check.sentence("\"city\" X Y (where it lies; 15 15 without; the last counts)");
        Check.is("without", 100 * sound("", 0).told(5) + sound("", 0).told(6), 1515);
        for (String place : new String[] {"0 0", "0 30", "30 0", "30 30"}) {
            BreadCity c = sound("city 7 7;city " + place + ";", 0);
            Check.is("at " + place, 0, (c.told(5) + " " + c.told(6)).compareTo(place));
        }
        bog("city 31 0;", NUMBER, 5);
        bog("city 0 31;", NUMBER, 7);
        Check.sentence("or \"flour\" N (0 to 99; 9 without; the last counts).");
        Check.is("without", sound("", 0).told(7), 9);
        Check.is("0", sound("flour 5;flour 0;", 0).told(7), 0);
        Check.is("99", sound("flour 0;flour 99;", 0).told(7), 99);
        bog("flour 100;", NUMBER, 6);
    }

    /** LEAN by a LAW, where every fact is 1. */
    private static void value(String law, int due) {
        BreadCity c = new BreadCity();
        Check.is("law <" + law + ">", Check.law(c, law), 1);
        Check.is("law <" + law + "> fault()", c.fault(), -1);
        Check.is("law <" + law + "> count(1)", c.count(1), 0);
        Check.is("value of <" + law + ">", c.would(1, 1, 1, 1, 1, 1, 1), due);
    }

    private static void lawLength() {
        Check.sentence("A LAW is a text of up to 150 bytes: E, at the end nothing more; without: bread * noses / 10 - onions.");
        value("1+".repeat(74) + "22", 96);
        value(blanks(149) + "7", 7);
        value("7" + blanks(149), 7);
        BreadCity c = new BreadCity();
        Check.is("without", c.would(7, 30, 3, 5, 2, 1, 8), 19);
        Check.is("without, cut", c.would(3, 13, 0, 0, 0, 0, 0), 3);
        int n = Check.tell(c, blanks(150) + "7");
        Check.unfit("151 bytes", () -> c.law(n));
        Check.is("the first 150 bytes of them", c.law(150), -9);
        Check.is("at the length", c.fault(), 150);
        Check.is("the LAW stays", c.would(7, 30, 3, 5, 2, 1, 8), 19);
        law("", CANNOT, 0);
        law("1 1", CANNOT, 2);
        law("1;", CANNOT, 1);
        law("1)", CANNOT, 1);
        law("1 bread", CANNOT, 2);
        Check.law(c, "5");
        Check.is("a LAW", c.would(7, 30, 3, 5, 2, 1, 8), 5);
        c.bog(0);
        Check.is("no LAW behind a BOG", c.would(7, 30, 3, 5, 2, 1, 8), 19);
    }

    private static void leans() {
        Check.sentence("LEAN of a QUARTER: what comes out, -99 at least, 99 at most.");
        int[] made = {-999, -100, -99, -98, -1, 0, 1, 98, 99, 100, 999};
        int[] due = {-99, -99, -99, -98, -1, 0, 1, 98, 99, 99, 99};
        for (int i = 0; i < made.length; i++) {
            String law = made[i] < 0 ? "0 - " + -made[i] : "" + made[i];
            value(law, due[i]);
            BreadCity c = Check.cityOf("quarter 1 5;quarter 1 5;");
            Check.law(c, law);
            Check.is("LEAN by " + law, c.quarter(0, 5), due[i]);
            Check.is("LEANS together by " + law, c.side(1), 2 * due[i]);
            Check.is("greatest LEAN by " + law, c.sweetest(1), due[i]);
        }
    }

    private static void lawShape() {
        Check.sentence("E: T { + or - T }. T: U { * or / or % U }.");
        value("50 - 20 - 10", 20);
        value("50 - 20 + 10", 40);
        value("2 + 3 * 4", 14);
        value("3 * 4 + 2", 14);
        value("80 / 4 / 2", 10);
        value("80 / 4 * 2", 40);
        value("7 * 9 % 5", 3);
        value("50 - 60 / 7 % 5 * 2", 44);
        Check.sentence("U: N (0 to 999)");
        value("0", 0);
        value("999 - 900", 99);
        value("0 - 999 + 900", -99);
        law("1000", NUMBER, 0);
        law("1 + 1000", NUMBER, 4);
        Check.sentence("\"least\" \"[\" E \",\" E \"]\", \"most\" \"[\" E \",\" E \"]\", or \"(\" E \")\".");
        value("least[4, 7]", 4);
        value("least[7, 4]", 4);
        value("most[4, 7]", 7);
        value("most[7, 4]", 7);
        value("least[0 - 4, 4] * 10 + most[0 - 4, 0 - 5]", -44);
        value("least[5, 5] + most[6, 6]", 11);
        value("2 * (3 + 4)", 14);
        value("most[1 + 2, 2 * 3 - 4]", 3);
        law("least[4]", CANNOT, 7);
        law("most[4,5,6]", CANNOT, 8);
        law("()", CANNOT, 1);
    }

    private static void lawWords() {
        String all = "quarter 0 99;quarter 3 98;" + "oven 0 9;".repeat(8) + "flour 99;";
        BreadCity c = Check.cityOf(all);
        String light = "light 0;light 1;light 2;light 3;light 4;light 5;light 6;light 7;";
        words(c, "none lit", new int[] {0, 99, 0, 0, 0, 0, 0}, new int[] {0, 98, 0, 0, 0, 3, 0});
        Check.work(c, light + "onions 0 99;");
        words(c, "all lit", new int[] {72, 99, 8, 0, 99, 0, 0}, new int[] {0, 98, 0, 72, 0, 3, 0});
        Check.work(c, "again 30[hour;];again 30[hour;];again 30[hour;];again 9[hour;];cold 0;cold 1;");
        words(c, "out, with colds", new int[] {0, 49, 0, 0, 99, 0, 99}, new int[] {0, 49, 0, 0, 0, 3, 99});
        BreadCity d = Check.cityOf("quarter 0 1;quarter 0 2;");
        Check.work(d, "cold 0;cold 1;");
        Check.sentence("\"noses\" (half of them, cut, if it has a cold)");
        Check.law(d, "noses");
        Check.is("half of 1", d.quarter(0, 5), 0);
        Check.is("half of 2", d.quarter(1, 5), 1);
    }

    private static void words(BreadCity c, String what, int[] first, int[] second) {
        String[] words = {"bread", "noses", "lit", "others", "onions", "side", "hour"};
        String[] said = {"\"bread\" (STRONG of its lit OVENS together)", "\"noses\" (half of them, cut, if it has a cold)",
            "\"lit\" (how many of its OVENS are)", "\"others\" (STRONG of all lit OVENS elsewhere)", "\"onions\"",
            "\"side\" (D)", "\"hour\""};
        for (int i = 0; i < words.length; i++) {
            Check.sentence(said[i]);
            Check.law(c, words[i]);
            Check.is(words[i] + " of the first, " + what, c.quarter(0, 5), first[i]);
            Check.is(words[i] + " of the second, " + what, c.quarter(1, 5), second[i]);
        }
    }

    private static void wraps() {
        Check.sentence("Values are whole numbers of 32 bits that wrap;");
        // 256 * 256 * 256 * 128 is 2,147,483,648, which wraps to -2,147,483,648
        value("256*256*256*128 % 100", -48);
        value("(256*256*256*128 - 1) % 100", 47);
        value("(256*256*256*127 + 256*256*256 - 1) % 100", 47);
        value("(256*256*256*127 + 256*256*256) % 100", -48);
        value("(0 - 256*256*256*128) % 100", -48);
        value("(0 - 256*256*256*128 - 1) % 100", 47);
        value("256*256*256*256", 0);
        value("256*256*256*255 / (256*256*256)", -1);
        value("(256*256*256*128 - 1) * 2", -2);
        value("(256*256*256*128 - 1) * (256*256*256*128 - 1)", 1);
        value("256*256*256*128", -99);
        value("256*256*256*128 - 1", 99);
        value("least[256*256*256*128, 0 - 1] % 100", -48);
        value("most[256*256*256*128, 0 - 1]", -1);
        value("least[256*256*256*128 - 1, 1]", 1);
    }

    private static void divisions() {
        Check.sentence("/ cuts, % leaves (with the sign of what is divided), by 0 both are 0.");
        value("7 / 2", 3);
        value("(0 - 7) / 2", -3);
        value("7 / (0 - 2)", -3);
        value("(0 - 7) / (0 - 2)", 3);
        value("1 / 2", 0);
        value("(0 - 1) / 2", 0);
        value("7 % 2", 1);
        value("(0 - 7) % 2", -1);
        value("7 % (0 - 2)", 1);
        value("(0 - 7) % (0 - 2)", -1);
        value("6 % 2", 0);
        value("7 / 0", 0);
        value("(0 - 7) / 0", 0);
        value("0 / 0", 0);
        value("7 % 0", 0);
        value("(0 - 7) % 0", 0);
        value("0 % 0", 0);
        value("5 + 7 / (bread - 1)", 5);
        value("5 + 7 % (bread - 1)", 5);
        // the least number by -1 wraps to itself, and leaves nothing
        value("256*256*256*128 / (0 - 1) % 100", -48);
        value("256*256*256*128 % (0 - 1)", 0);
    }

    private static void workLength() {
        Check.sentence("WORK is a text of up to 150 bytes: { STEP \";\" }.");
        BreadCity c = Check.cityOf(Twin.BOG);
        Check.is("an empty text", c.work(0), 0);
        Check.is("150 bytes", Check.work(c, "cold 0;".repeat(21) + "   "), 21);
        Check.is("150 bytes", Check.work(c, "cold 0;".repeat(20) + "hour    ; "), 21);
        int n = Check.tell(c, "cold 0;".repeat(20) + "hour     ; ");
        Check.unfit("151 bytes", () -> c.work(n));
        Check.is("works", c.count(2), 3);
        Check.is("140 of them", c.work(140), 20);
        work("cold 0;cold 1", CANNOT, 13);
        work(";", CANNOT, 0);
    }

    private static void stepNumbers() {
        Check.sentence("STEP: \"light\" O, \"quench\" O, \"onions\" Q N (0 to 99), \"cold\" Q, \"hour\",");
        BreadCity c = Check.cityOf(Twin.BOG);
        Check.is("the last of each", Check.work(c, "light 3;quench 3;onions 2 99;cold 2;hour;"), 5);
        Check.is("onions", c.quarter(2, 3), 99);
        Check.is("the first of each", Check.work(c, "light 0;quench 0;onions 2 0;onions 0 1;cold 0;"), 5);
        Check.is("onions", c.quarter(2, 3), 0);
        work("light 4;", NUMBER, 6);
        work("quench 4;", NUMBER, 7);
        work("onions 3 1;", NUMBER, 7);
        work("onions 0 100;", NUMBER, 9);
        work("cold 3;", NUMBER, 5);
        work("hour 1;", CANNOT, 5);
        BreadCity d = Check.cityOf("quarter 0 1;".repeat(6) + "oven 5 1;".repeat(8));
        Check.is("of six and eight", Check.work(d, "light 7;quench 7;onions 5 9;cold 5;"), 4);
        Check.is("a 7th", Check.work(d, "cold 6;"), -8);
        Check.is("a 9th", Check.work(d, "light 8;"), -8);
        BreadCity e = new BreadCity();
        Check.is("of none", Check.work(e, "cold 0;"), -8);
        Check.is("of none", Check.work(e, "light 0;"), -8);
        Check.is("of none", Check.work(e, "quench 0;"), -8);
        Check.is("of none", Check.work(e, "onions 0 0;"), -8);
        Check.is("hour needs none", Check.work(e, "hour;"), 1);
    }

    private static void agains() {
        Check.sentence("or \"again\" N \"[\" { STEP \";\" } \"]\" (N 0 to 30).");
        BreadCity c = Check.cityOf(Twin.BOG);
        Check.is("0 times", Check.work(c, "again 0[cold 0;];"), 0);
        Check.is("once", Check.work(c, "again 1[cold 0;];"), 1);
        Check.is("30 times", Check.work(c, "again 30[cold 0;];"), 30);
        Check.is("nothing in it", Check.work(c, "again 30[];again 0[];again 1[  ] ;"), 0);
        Check.is("an again in it, and what is behind", Check.work(c, "again 3[again 2[cold 0;];hour;];cold 1;"), 10);
        work("again 31[cold 0;];", NUMBER, 6);
        work("again [cold 0;];", CANNOT, 6);
        work("again 1[cold 0];", CANNOT, 14);
        work("again 1[cold 0;]", CANNOT, 16);
        work("again 1[cold 0;;", CANNOT, 15);
        work("again 1 cold 0;", CANNOT, 8);
        work("];", CANNOT, 0);
    }

    private static void bookLength() {
        Check.sentence("A BOOK is one of up to 60 bytes: { H X Y \";\" }, 6 lines at most, no H twice:");
        BreadCity c = Check.cityOf(Twin.BOG);
        Check.is("an empty text", c.book(0), 0);
        Check.is("60 bytes", Check.book(c, "1 15 15;" + blanks(46) + "2 0 0;"), 2);
        int n = Check.tell(c, "1 15 15;" + blanks(47) + "2 0 0;");
        Check.unfit("61 bytes", () -> c.book(n));
        Check.is("lines", c.told(9), 2);
        Check.is("60 of 61 bytes", c.book(60), -9);
        Check.is("at the length", c.fault(), 60);
        Check.is("8 of them", Check.tell(c, "1 15 15;2 0 0;") - 6 + c.book(8), 9);
        Check.is("lines", c.told(9), 1);
    }

    private static void bookLines() {
        Check.sentence("6 lines at most, no H twice: H hours later (1 to 12) it lay at X, Y (0 to 30 both).");
        BreadCity c = Check.cityOf(Twin.BOG);
        String six = "1 0 0;2 0 0;3 0 0;4 0 0;5 0 0;12 0 0;";
        Check.is("6 lines", Check.book(c, six), 6);
        Check.is("told", c.told(9), 6);
        book(six + "7 0 0;", TOO_MANY, 37);
        book("1 0 0;1 1 1;", NUMBER, 6);
        book("1 0 0;2 0 0;3 0 0;1 0 0;", NUMBER, 18);
        book("0 0 0;", NUMBER, 0);
        book("13 0 0;", NUMBER, 0);
        book("1 31 0;", NUMBER, 2);
        book("1 0 31;", NUMBER, 4);
        for (String line : new String[] {"1 0 0;", "1 30 30;", "12 0 30;", "12 30 0;"}) {
            Check.is("book " + line, Check.book(c, line), 1);
            String[] place = line.split("[ ;]");
            BreadCity d = Check.cityOf("city " + place[1] + " " + place[2] + ";");
            Check.book(d, line);
            Check.is("it lies still at " + line, d.fits(0), 1);
            Check.book(d, place[0] + " 15 15;");
            Check.is("it lies not there", d.fits(0), 0);
        }
    }

    private static void numbers() {
        Check.sentence("Numbers: digits, as many as stand there;");
        Check.is("with zeros ahead", sound("flour " + "0".repeat(300) + "42;", 0).told(7), 42);
        Check.is("nothing but zeros", sound("flour 000000;", 0).told(7), 0);
        bog("flour 0100;", NUMBER, 6);
        bog("flour 10 0;", CANNOT, 9);
        // numbers that wrap to 1, or to 0, in 32 or 64 bits
        bog("flour 4294967297;", NUMBER, 6);
        bog("flour 4294967296;", NUMBER, 6);
        bog("flour 18446744073709551617;", NUMBER, 6);
        bog("flour 1" + "0".repeat(580) + ";", NUMBER, 6);
        bog("quarter 01;", CANNOT, 10);
        law("4294967297", NUMBER, 0);
        law("1" + "0".repeat(140), NUMBER, 0);
        work("again 4294967297[];", NUMBER, 6);
        work("cold 4294967296;", NUMBER, 5);
        book("4294967297 0 0;", NUMBER, 0);
        book("1 0 0;" + "0001 0 0;", NUMBER, 6);
        value("0".repeat(148) + "42", 42);
    }

    private static void words() {
        Check.sentence("WORDS: small letters, as many as stand there;");
        Check.is("a digit ends it", sound("flour7;", 0).told(7), 7);
        bog("flours 1;", CANNOT, 0);
        bog("flou 1;", CANNOT, 0);
        bog("Flour 1;", CANNOT, 0);
        bog("flouR 1;", CANNOT, 0);
        bog("flourR 1;", CANNOT, 5);
        bog("flourz 1;", CANNOT, 0);
        bog("floura 1;", CANNOT, 0);
        bog("flour{1;", CANNOT, 5);
        bog("flour`1;", CANNOT, 5);
        bog("flour 1;cityflour 1;", CANNOT, 8);
        law("breadnoses", CANNOT, 0);
        law("bread noses", CANNOT, 6);
        law("brea", CANNOT, 0);
        law("leasts[1,2]", CANNOT, 0);
        value("least[1,2]+lit", 2);
        work("hourhour;", CANNOT, 0);
        work("col 0;", CANNOT, 0);
        BreadCity c = Check.cityOf(Twin.BOG);
        Check.is("digits may follow at once", Check.work(c, "light0;cold1;again2[hour;];"), 4);
    }

    private static void blanks() {
        Check.sentence("blanks (32) may stand ahead of all these, and at the end.");
        Check.is("ahead of all", sound("   flour   8   ;   city   1   2   ;   ", 0).told(7), 8);
        Check.is("none at all", sound("quarter0 1;oven0 9;", 1).told(1), 1);
        Check.is("blanks alone", sound(blanks(600), 0).told(7), 9);
        value("  least  [  3  ,  (  4  )  ]  *  2  ", 6);
        value("least[3,(4)]*2", 6);
        BreadCity c = Check.cityOf(Twin.BOG);
        Check.is("WORK", Check.work(c, "  again  2  [  cold  0  ;  ]  ;  "), 2);
        Check.is("blanks alone", Check.work(c, blanks(150)), 0);
        Check.is("BOOK", Check.book(c, "  1  2  3  ;  4  5  6  ;  "), 2);
        Check.is("blanks alone", Check.book(c, blanks(60)), 0);
        for (int sign : new int[] {0, 9, 10, 13, 31, 33, 160}) {
            String blank = "" + (char) sign;
            bog("flour" + blank + "8;", CANNOT, 5);
            bog("flour 8;" + blank, CANNOT, 8);
            law(blank + "8", CANNOT, 0);
            law("8" + blank, CANNOT, 1);
            work("hour;" + blank, CANNOT, 5);
            book(blank + "1 0 0;", CANNOT, 0);
        }
        bog("flo ur 8;", CANNOT, 0);
        bog("flour 8 8;", CANNOT, 8);
    }

    private static void faultsOne() {
        Check.sentence("1 what can't stand there (at the length, if the text ends too early);");
        bog("flour", CANNOT, 5);
        bog("flour  ", CANNOT, 7);
        bog("flour 8", CANNOT, 7);
        bog("flour 8  ", CANNOT, 9);
        bog("quarter 0", CANNOT, 9);
        bog("flour 8;;", CANNOT, 8);
        bog("flour 8; 8", CANNOT, 9);
        bog("flour ;", CANNOT, 6);
        bog("flour -8;", CANNOT, 6);
        bog("" + (char) 255, CANNOT, 0);
        law("   ", CANNOT, 3);
        law("1 +", CANNOT, 3);
        law("1 + ", CANNOT, 4);
        law("(1", CANNOT, 2);
        law("least", CANNOT, 5);
        law("least[1", CANNOT, 7);
        law("least[1,", CANNOT, 8);
        law("least[1,2", CANNOT, 9);
        law("-1", CANNOT, 0);
        work("cold", CANNOT, 4);
        work("onions 0", CANNOT, 8);
        work("hour", CANNOT, 4);
        work("again 2", CANNOT, 7);
        work("again 2[", CANNOT, 8);
        work("again 2[hour;", CANNOT, 13);
        book("1", CANNOT, 1);
        book("1 2", CANNOT, 3);
        book("1 2 3", CANNOT, 5);
        book("1 2 3;x", CANNOT, 6);
    }

    private static void faultsTwo() {
        Check.sentence("2 a number that is none such (an H twice in a BOOK);");
        bog("quarter 0 1;oven 0 9;oven 0 10;", NUMBER, 28);
        bog("city 30 31;", NUMBER, 8);
        law("bread + 999 + 1000", NUMBER, 14);
        work("again 2[onions 2 100;];", NUMBER, 17);
        book("12 30 30;12 30 30;", NUMBER, 9);
        book("7 1 1;  7 40 40;", NUMBER, 8);
    }

    private static void faultsThree() {
        Check.sentence("3 a CLAUSE, QUARTER, OVEN, \"reed\" or MOORING too many (at its word), a line too many (at its H),");
        bog("flour 1;".repeat(60) + "  flour 1;", TOO_MANY, 482);
        bog("flour 1;".repeat(60) + "flour", TOO_MANY, 480);
        bog("quarter 0 1;".repeat(6) + "  quarter 0 1;", TOO_MANY, 74);
        bog("quarter 0 1;".repeat(6) + "quarter", TOO_MANY, 72);
        bog("quarter 0 1;".repeat(6) + "quarter 9 0;", TOO_MANY, 72);
        bog("quarter 0 1;" + "oven 0 1;".repeat(8) + "  oven 0 1;", TOO_MANY, 86);
        bog("quarter 0 1;" + "oven 0 1;".repeat(8) + "oven 9", TOO_MANY, 84);
        bog("reed 0 0;".repeat(12) + "  reed 0 0;", TOO_MANY, 110);
        bog("reed 0 0;".repeat(12) + "reed;", TOO_MANY, 108);
        bog("mooring 0 0;".repeat(6) + "  mooring 0 0;", TOO_MANY, 74);
        bog("mooring 0 0;".repeat(6) + "mooring 99 0;", TOO_MANY, 72);
        book("1 0 0;2 0 0;3 0 0;4 0 0;5 0 0;6 0 0;  7 0 0;", TOO_MANY, 38);
        book("1 0 0;2 0 0;3 0 0;4 0 0;5 0 0;6 0 0;7", TOO_MANY, 36);
        book("1 0 0;2 0 0;3 0 0;4 0 0;5 0 0;6 0 0;7 99 0;", TOO_MANY, 36);
        // other CLAUSES have no number of their own
        Check.is("cities", sound("city 1 1;".repeat(60), 0).told(5), 1);
    }

    private static void openOnes() {
        Check.sentence("or a 7th of ( least most again that is open at one time;");
        value("((((((8))))))", 8);
        value("((((((8))))))+((((((1))))))", 9);
        law("(((((((8)))))))", TOO_MANY, 6);
        law("1+((((((8))))))+(((((((8)))))))", TOO_MANY, 22);
        value("least[least[least[least[least[least[8,9],9],9],9],9],9]", 8);
        value("most[1,most[2,most[3,most[4,most[5,most[6,7]]]]]]", 7);
        law("least[least[least[least[least[least[least[8,9],9],9],9],9],9],9]", TOO_MANY, 36);
        law("most[1,most[2,most[3,most[4,most[5,most[6,most[7,8]]]]]]]", TOO_MANY, 42);
        law("((((((least[1,2]))))))", TOO_MANY, 6);
        law("((((((  most[1,2]))))))", TOO_MANY, 8);
        law("least[1,(most[2,(least[3,(most[4,5])])])]", TOO_MANY, 26);
        value("least[1,(most[2,(least[3,(4)])])]", 1);
        law("((((((least", TOO_MANY, 6);
        law("(((((((", TOO_MANY, 6);
        value("(1)+(1)+(1)+(1)+(1)+(1)+(1)+(1)+(1)+(1)", 10);
        BreadCity c = Check.cityOf(Twin.BOG);
        Check.is("6 open", Check.work(c, "again 1[".repeat(6) + "hour;" + "];".repeat(6)), 1);
        Check.is("7, one behind the other", Check.work(c, "again 1[hour;];".repeat(7)), 7);
        work("again 1[".repeat(7) + "hour;" + "];".repeat(7), TOO_MANY, 48);
        work("again 1[".repeat(6) + "  again", TOO_MANY, 50);
        work("again 0[".repeat(6) + "again 99", TOO_MANY, 48);
    }

    private static void firstAndLeast() {
        Check.sentence("FAULTS, the first from the left, at its first byte:");
        bog("flour 100;x", NUMBER, 6);
        bog("x;flour 100;", CANNOT, 0);
        bog("city 31 x;", NUMBER, 5);
        bog("city x 31;", CANNOT, 5);
        bog("city 31", NUMBER, 5);
        law("1000 + x", NUMBER, 0);
        law("x + 1000", CANNOT, 0);
        law("(((((((1000", TOO_MANY, 6);
        law("((((((1000+(", NUMBER, 6);
        work("cold 9", NUMBER, 5);
        work("cold 9;x;", NUMBER, 5);
        book("1 99", NUMBER, 2);
        Check.sentence("of one the least.");
        bog("flour 1;".repeat(60) + "flours 1;", CANNOT, 480);
        bog("flour 1;".repeat(60) + "7", CANNOT, 480);
        bog("flour 1;".repeat(60) + ";", CANNOT, 480);
        law("((((((leasts", CANNOT, 6);
        law("((((((x", CANNOT, 6);
        work("again 1[".repeat(6) + "agains", CANNOT, 48);
        book("1 0 0;2 0 0;3 0 0;4 0 0;5 0 0;6 0 0;6 0 0;", NUMBER, 36);
        book("1 0 0;2 0 0;3 0 0;4 0 0;5 0 0;6 0 0;13 0 0;", NUMBER, 36);
        book("1 0 0;2 0 0;3 0 0;4 0 0;5 0 0;6 0 0;0 0 0;", NUMBER, 36);
        book("1 0 0;2 0 0;3 0 0;4 0 0;5 0 0;6 0 0;x", CANNOT, 36);
    }
}
