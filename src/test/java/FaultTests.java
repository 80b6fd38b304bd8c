/** Texts of every kind, sound ones and faulty ones: the answer and the place of the FAULT. */
public final class FaultTests {
    private static final int CANNOT = -9;
    private static final int NUMBER = -8;
    private static final int TOO_MANY = -7;
    private static final String BOG = "quarter 1 20;quarter 3 10;oven 0 5;oven 1 4;";

    private interface Reading {
        int of(BreadCity city, int n);
    }

    public static void main(String[] args) {
        bogTexts();
        tooManyClauses();
        lawTexts();
        lawsOpen();
        workTexts();
        worksOpen();
        bookTexts();
        oddBytes();
        firstBytes();
        Check.end("FaultTests");
    }

    private static void text(String kind, Reading reading, String text, int answer, int place) {
        BreadCity city = Check.cityOf(BOG);
        String what = kind + " <" + text + ">";
        Check.is(what, reading.of(city, Check.tell(city, text)), answer);
        Check.is(what + " fault()", city.fault(), place);
        Check.is(what + " tape", city.count(1), 0);
    }

    private static void bog(String text, int answer, int place) { text("bog", BreadCity::bog, text, answer, place); }

    private static void law(String text, int answer, int place) { text("law", BreadCity::law, text, answer, place); }

    private static void work(String text, int answer, int place) { text("work", BreadCity::work, text, answer, place); }

    private static void book(String text, int answer, int place) { text("book", BreadCity::book, text, answer, place); }

    private static void bogTexts() {
        bog("", 0, -1);
        bog("    ", 0, -1);
        bog("quarter 0 1;", 0, -1);
        bog("quarter 3 99;oven 0 1;oven 0 9;", 2, -1);
        bog("quarter0 1;oven0 9;", 1, -1);
        bog("  quarter   0  1  ;  oven  0  1  ;  ", 1, -1);
        bog("quarter 00003 0000099;", 0, -1);
        bog("reed 0 0;reed 30 30;mooring 0 0;mooring 30 30;city 30 0;flour 99;flour 0;", 0, -1);
        bog("quarter", CANNOT, 7);
        bog("quarter   ", CANNOT, 10);
        bog("quarter 0", CANNOT, 9);
        bog("quarter 0 1", CANNOT, 11);
        bog("quarter 0 1  ", CANNOT, 13);
        bog("quarter 0 1 1;", CANNOT, 12);
        bog("quarter 0 x;", CANNOT, 10);
        bog("quarter x 1;", CANNOT, 8);
        bog("quarter 01;", CANNOT, 10);
        bog("quarter,0 1;", CANNOT, 7);
        bog("quarters 0 1;", CANNOT, 0);
        bog("quarte 0 1;", CANNOT, 0);
        bog("quarteroven 0 1;", CANNOT, 0);
        bog("quarterz 0 1;", CANNOT, 0);
        bog("quartera 0 1;", CANNOT, 0);
        bog("Quarter 0 1;", CANNOT, 0);
        bog(";", CANNOT, 0);
        bog("flour 1;;", CANNOT, 8);
        bog("flour 1; 7", CANNOT, 9);
        bog("flour -1;", CANNOT, 6);
        bog("light 0;", CANNOT, 0);
        bog("quarter 4 1;", NUMBER, 8);
        bog("quarter 0 0;", NUMBER, 10);
        bog("quarter 0 100;", NUMBER, 10);
        bog("quarter 0 4294967297;", NUMBER, 10);
        bog("quarter 0 99999999999999999999999999;", NUMBER, 10);
        bog("quarter 0 100 1", NUMBER, 10);
        bog("quarter 4 100;", NUMBER, 8);
        bog("oven 0 1;quarter 0 1;", NUMBER, 5);
        bog("quarter 0 1;oven 1 1;", NUMBER, 17);
        bog("quarter 0 1;oven 0 0;", NUMBER, 19);
        bog("quarter 0 1;oven 0 10;", NUMBER, 19);
        bog("reed 31 0;", NUMBER, 5);
        bog("reed 0 31;", NUMBER, 7);
        bog("mooring 31 0;", NUMBER, 8);
        bog("mooring 0 31;", NUMBER, 10);
        bog("city 31 0;", NUMBER, 5);
        bog("city 0 31;", NUMBER, 7);
        bog("flour 100;", NUMBER, 6);
    }

    private static void tooManyClauses() {
        bog("quarter 0 1;".repeat(6), 0, -1);
        bog("quarter 0 1;".repeat(7), TOO_MANY, 72);
        bog("quarter 0 1;".repeat(6) + " quarter", TOO_MANY, 73);
        bog("quarter 0 1;".repeat(6) + "quarter 9 9;", TOO_MANY, 72);
        bog("quarter 0 1;" + "oven 0 1;".repeat(8), 8, -1);
        bog("quarter 0 1;" + "oven 0 1;".repeat(9), TOO_MANY, 84);
        bog("reed 1 1;".repeat(12), 0, -1);
        bog("reed 1 1;".repeat(13), TOO_MANY, 108);
        bog("mooring 1 1;".repeat(6), 0, -1);
        bog("mooring 1 1;".repeat(7), TOO_MANY, 72);
        bog("flour 1;".repeat(60), 0, -1);
        bog("flour 1;".repeat(60) + "  ", 0, -1);
        bog("flour 1;".repeat(61), TOO_MANY, 480);
        bog("flour 1;".repeat(60) + "  city", TOO_MANY, 482);
        bog("flour 1;".repeat(60) + "flours", CANNOT, 480);
        bog("flour 1;".repeat(60) + ";", CANNOT, 480);
        bog("quarter 0 1;".repeat(6) + "flour 1;".repeat(54) + "quarter 0 1;", TOO_MANY, 504);
    }

    private static void lawTexts() {
        law("0", 1, -1);
        law("999", 1, -1);
        law("000999", 1, -1);
        law(" bread * noses / lit % others - onions + side * hour ", 1, -1);
        law("least[1,2]", 1, -1);
        law("most [ bread , least [ 3 , 4 ] ] + ( 1 )", 1, -1);
        law("1+".repeat(74) + "10", 1, -1);
        law("", CANNOT, 0);
        law("   ", CANNOT, 3);
        law("1000", NUMBER, 0);
        law("1+1000", NUMBER, 2);
        law("99999999999", NUMBER, 0);
        law("+1", CANNOT, 0);
        law("-1", CANNOT, 0);
        law("1+", CANNOT, 2);
        law("1 +  ", CANNOT, 5);
        law("1++1", CANNOT, 2);
        law("1 1", CANNOT, 2);
        law("2bread", CANNOT, 1);
        law("bread noses", CANNOT, 6);
        law("sides", CANNOT, 0);
        law("nose", CANNOT, 0);
        law("(1", CANNOT, 2);
        law("1)", CANNOT, 1);
        law("()", CANNOT, 1);
        law("(1]", CANNOT, 2);
        law("least", CANNOT, 5);
        law("least(1,2)", CANNOT, 5);
        law("least[1]", CANNOT, 7);
        law("least[1;2]", CANNOT, 7);
        law("least[1,2)", CANNOT, 9);
        law("least[1,2", CANNOT, 9);
        law("least[,2]", CANNOT, 6);
        law("most[1,2,3]", CANNOT, 8);
        law("1;", CANNOT, 1);
        law("bread * 1000 + x", NUMBER, 8);
        law("x * 1000", CANNOT, 0);
    }

    private static void lawsOpen() {
        law("((((((1))))))", 1, -1);
        law("(((((((1)))))))", TOO_MANY, 6);
        law("((((((1))))))+((((((2))))))", 1, -1);
        law("((((((least[1,2]))))))", TOO_MANY, 6);
        law("((((((most", TOO_MANY, 6);
        law("((((((mosts", CANNOT, 6);
        law("((((( least[most[1,2],3])))))", TOO_MANY, 12);
        law("least[least[least[least[least[least[1,2],3],4],5],6],7]", 1, -1);
        law("most[1,most[1,most[1,most[1,most[1,most[1,(2)]]]]]]", TOO_MANY, 42);
        law("(((((((", TOO_MANY, 6);
        law("(1)+(2)+(3)+(4)+(5)+(6)+(7)+(8)", 1, -1);
    }

    private static void workTexts() {
        work("", 0, -1);
        work("  ", 0, -1);
        work("hour;", 1, -1);
        work("light 0;light 1;quench 0;onions 1 99;cold 1;hour;", 6, -1);
        work("light0;onions0 1;again2[hour;];", 4, -1);
        work(" again  2 [ hour ; hour ; ] ; ", 4, -1);
        work("again 0[hour;];again 30[];", 0, -1);
        work("hour", CANNOT, 4);
        work("hours;", CANNOT, 0);
        work("hour;;", CANNOT, 5);
        work("hour;]", CANNOT, 5);
        work("light;", CANNOT, 5);
        work("light 0 0;", CANNOT, 8);
        work("light 2;", NUMBER, 6);
        work("quench 2;", NUMBER, 7);
        work("onions 2 0;", NUMBER, 7);
        work("onions 0 100;", NUMBER, 9);
        work("onions 0;", CANNOT, 8);
        work("cold 2;", NUMBER, 5);
        work("cold;", CANNOT, 4);
        work("hour 1;", CANNOT, 5);
        work("again 31[];", NUMBER, 6);
        work("again[];", CANNOT, 5);
        work("again 1(hour;);", CANNOT, 7);
        work("again 1[hour];", CANNOT, 12);
        work("again 1[hour;]", CANNOT, 14);
        work("again 1[hour;", CANNOT, 13);
        work("again 1[", CANNOT, 8);
        work("again 1", CANNOT, 7);
        work("again 1[hour;light 9;];", NUMBER, 19);
        work("flour 1;", CANNOT, 0);
    }

    private static void worksOpen() {
        work("again 1[".repeat(6) + "hour;" + "];".repeat(6), 1, -1);
        work("again 1[".repeat(7) + "];".repeat(7), TOO_MANY, 48);
        work("again 1[".repeat(6) + " again", TOO_MANY, 49);
        work("again 1[".repeat(6) + "agains", CANNOT, 48);
        work("again 1[];".repeat(8), 0, -1);
        BreadCity none = new BreadCity();
        Check.is("light without ovens", Check.work(none, "light 0;"), NUMBER);
        Check.is("place", none.fault(), 6);
        Check.is("cold without quarters", Check.work(none, "cold 0;"), NUMBER);
        Check.is("onions without quarters", Check.work(none, "hour;onions 0 0;"), NUMBER);
        Check.is("place", none.fault(), 12);
        Check.is("nothing is done", none.told(4), 0);
    }

    private static void bookTexts() {
        book("", 0, -1);
        book(" ", 0, -1);
        book("1 0 0;", 1, -1);
        book("12 30 30;1 0 0; ", 2, -1);
        book("1 0 0;2 0 0;3 0 0;4 0 0;5 0 0;6 0 0;", 6, -1);
        book("1 0 0;2 0 0;3 0 0;4 0 0;5 0 0;6 0 0; 7 0 0;", TOO_MANY, 37);
        book("1 0 0;2 0 0;3 0 0;4 0 0;5 0 0;6 0 0;7", TOO_MANY, 36);
        book("1 0 0;2 0 0;3 0 0;4 0 0;5 0 0;6 0 0;6 0 0;", NUMBER, 36);
        book("1 0 0;2 0 0;3 0 0;4 0 0;5 0 0;6 0 0;13 0 0;", NUMBER, 36);
        book("1 0 0;2 0 0;3 0 0;4 0 0;5 0 0;6 0 0;x", CANNOT, 36);
        book("0 0 0;", NUMBER, 0);
        book("13 0 0;", NUMBER, 0);
        book("1 31 0;", NUMBER, 2);
        book("1 0 31;", NUMBER, 4);
        book("1 0 0; 1 0 0;", NUMBER, 7);
        book("1 0 0;01 0 0;", NUMBER, 6);
        book("1 0 0", CANNOT, 5);
        book("1 0;", CANNOT, 3);
        book("1;", CANNOT, 1);
        book("hour;", CANNOT, 0);
        book("1 0 0 0;", CANNOT, 6);
        book(";", CANNOT, 0);
    }

    private static void oddBytes() {
        bog("\u00ff", CANNOT, 0);
        bog("\u0000", CANNOT, 0);
        bog("flour 1;\n", CANNOT, 8);
        bog("flour\t1;", CANNOT, 5);
        law("1\u00ff", CANNOT, 1);
        law("\u00b1", CANNOT, 0);
        work("hour;\u00ff", CANNOT, 5);
        book("\u00ff", CANNOT, 0);
        bog("flour 1`", CANNOT, 7);
        bog("flour {;", CANNOT, 6);
        bog("flour 1:", CANNOT, 7);
        bog("flour 1/;", CANNOT, 7);
    }

    /** What stands on the TAPE behind the first n bytes is not read. */
    private static void firstBytes() {
        first("bog", BreadCity::bog, "flour 12", 7, CANNOT, 7);
        first("bog", BreadCity::bog, "flour 12;;;", 9, 0, -1);
        first("bog", BreadCity::bog, "flour   ", 6, CANNOT, 6);
        first("bog", BreadCity::bog, "flour 1;   ", 7, CANNOT, 7);
        first("law", BreadCity::law, "breads", 5, 1, -1);
        first("law", BreadCity::law, "9999", 3, 1, -1);
        first("law", BreadCity::law, "1 + 1", 3, CANNOT, 3);
        first("law", BreadCity::law, "lit    ", 2, CANNOT, 0);
        first("law", BreadCity::law, "lit +  7", 5, CANNOT, 5);
        first("work", BreadCity::work, "hour;hour;", 5, 1, -1);
        first("work", BreadCity::work, "again 2[hour;];", 14, CANNOT, 14);
        first("book", BreadCity::book, "1 2 30;", 5, CANNOT, 5);
    }

    private static void first(String kind, Reading reading, String text, int n, int answer, int place) {
        BreadCity city = Check.cityOf(BOG);
        Check.tell(city, text);
        String what = kind + " of " + n + " of <" + text + ">";
        Check.is(what, reading.of(city, n), answer);
        Check.is(what + " fault()", city.fault(), place);
        Check.is(what + " tape", city.count(1), 0);
    }
}
