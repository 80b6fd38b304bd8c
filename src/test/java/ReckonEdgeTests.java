import java.math.BigInteger;

/** The sentences about what is reckoned beside the hours, and about SEASONS (promises 22 to 36): their edges. */
public final class ReckonEdgeTests {
    private static final String SIX_OF_ALL = "quarter 0 99;".repeat(6);

    public static void main(String[] args) {
        gusts();
        gustsAltogether();
        bakers();
        bakersAltogether();
        sacks();
        sacksByAll();
        leagues();
        key();
        nearest();
        sweetest();
        heaviest();
        side();
        room();
        roomByReeds();
        cool();
        safe();
        draws();
        drawsOfColds();
        seasons();
        seasonsOfFlour();
        seasonsWithoutOvens();
        span();
        spanWraps();
        Check.end("ReckonEdgeTests");
    }

    private static BreadCity city(String bog, String law) {
        BreadCity c = Check.cityOf(bog);
        Check.is("law <" + law + ">", Check.law(c, law), 1);
        return c;
    }

    // Promise 22
    private static void gusts() {
        Check.sentence("GUSTS of n, k, q: in each of n hours there is a gust by q of 16, each by itself: how likely there are just k.");
        BreadCity c = new BreadCity();
        fraction(c, 0, 0, 0, 1, 1);
        fraction(c, 0, 0, 16, 1, 1);
        fraction(c, 0, 1, 16, 0, 1);
        fraction(c, 12, 12, 16, 1, 1);
        fraction(c, 12, 11, 16, 0, 1);
        fraction(c, 12, 0, 0, 1, 1);
        fraction(c, 12, 1, 0, 0, 1);
        fraction(c, 11, 12, 8, 0, 1);
        fraction(c, 12, 12, 15, 129746337890625L, 281474976710656L);
        fraction(c, 12, 0, 15, 1, 281474976710656L);
        fraction(c, 1, 1, 1, 1, 16);
        fraction(c, 1, 0, 1, 15, 16);
        fraction(c, 1, 1, 6, 3, 8);
        fraction(c, 2, 1, 8, 1, 2);
        fraction(c, 12, 6, 8, 231, 1024);
    }

    private static void fraction(BreadCity c, int n, int k, int q, long above, long below) {
        String what = "gusts(" + n + ", " + k + ", " + q + ")";
        Check.is(what + " above", c.gusts(n, k, q, 0), above);
        Check.is(what + " below", c.gusts(n, k, q, 1), below);
    }

    private static void gustsAltogether() {
        Check.sentence("above (part 0), below (part 1), in least terms.");
        BreadCity c = new BreadCity();
        for (int n = 0; n <= 12; n++) {
            BigInteger ways = BigInteger.ONE;
            for (int k = 0; k <= 12; k++) {
                for (int q = 0; q <= 16; q++) {
                    BigInteger above = ways.multiply(BigInteger.valueOf(q).pow(k)).multiply(BigInteger.valueOf(16 - q).pow(Math.max(n - k, 0)));
                    BigInteger below = BigInteger.valueOf(16).pow(n);
                    BigInteger both = above.gcd(below);
                    fraction(c, n, k, q, above.divide(both).longValueExact(), below.divide(both).longValueExact());
                }
                ways = ways.multiply(BigInteger.valueOf(n - k)).divide(BigInteger.valueOf(k + 1));
            }
        }
    }

    // Promise 23
    private static void bakers() {
        Check.sentence("BAKERS by k, v: each bakes 0 to k batches; who bakes more has v less his batches, who bakes fewer has "
            + "0 less his batches; by like ones each has v by 2 (cut) less them; RESTS: neither would have more by another number.");
        BreadCity c = new BreadCity();
        // no batches: the only pair there is
        rests(c, 0, 0, 1, 0, 0);
        rests(c, 0, 1, 1, 0, 0);
        rests(c, 0, 99, 1, 0, 98);
        // for nothing nobody bakes
        rests(c, 1, 0, 1, 0, 0);
        rests(c, 9, 0, 1, 0, 0);
        // one more batch brings just as much: 0 0, 0 1, 1 0
        rests(c, 1, 1, 3, 0, 0);
        // 0 0, 0 1, 1 0, 1 1: all bring 1, 0 and 1, 1 and 0, 0
        rests(c, 1, 2, 4, 0, 2);
        // 0 1 has 0 and 2, and he who bakes none has no more by one; so 1 0, and 1 1
        rests(c, 1, 3, 3, 1, 2);
        rests(c, 1, 4, 1, 11, 2);
        Check.sentence("0 how many RESTS, 1 the first (10 times the one's batches, and the other one's; NONE), "
            + "2 what both have by it together (0 without).");
        rests(c, 2, 3, 0, -1, 0);
        rests(c, 9, 9, 0, -1, 0);
        rests(c, 9, 17, 0, -1, 0);
        // 9 and 9: each has 9 less 9, and by 0 just as much
        rests(c, 9, 18, 1, 99, 0);
        rests(c, 9, 19, 1, 99, 0);
        rests(c, 9, 20, 1, 99, 2);
        rests(c, 9, 99, 1, 99, 80);
    }

    private static void rests(BreadCity c, int k, int v, int many, int first, int both) {
        String what = "bakers(" + k + ", " + v + ")";
        Check.is(what + " rests", c.bakers(k, v, 0), many);
        Check.is(what + " first", c.bakers(k, v, 1), first);
        Check.is(what + " both", c.bakers(k, v, 2), both);
    }

    private static void bakersAltogether() {
        BreadCity c = new BreadCity();
        for (int k = 0; k <= 9; k++) {
            for (int v = 0; v <= 99; v++) {
                int many = 0;
                int first = -1;
                for (int pair = 10 * k + k; pair >= 0; pair--) {
                    if (pair % 10 <= k && rests(pair / 10, pair % 10, k, v)) {
                        many++;
                        first = pair;
                    }
                }
                int both = first < 0 ? 0 : has(first / 10, first % 10, v) + has(first % 10, first / 10, v);
                rests(c, k, v, many, first, both);
            }
        }
    }

    private static boolean rests(int one, int other, int k, int v) {
        int better = 0;
        for (int another = 0; another <= k; another++) {
            better += has(another, other, v) > has(one, other, v) || has(another, one, v) > has(other, one, v) ? 1 : 0;
        }
        return better == 0;
    }

    private static int has(int his, int others, int v) {
        return (his > others ? v : his == others ? (v - v % 2) / 2 : 0) - his;
    }

    // Promise 24
    private static void sacks() {
        Check.sentence("SACKS of n among told QUARTERS (bits) by noses (as told): levelled: no more than that each, no more than "
            + "a bound, the greatest by which no more than n are given (all, if they are no more).");
        BreadCity c = Check.cityOf("quarter 0 1;quarter 0 99;quarter 0 5;");
        Check.is("0 of them", c.sacks(1, 3, 0), 0);
        Check.is("1 is not enough for both", c.sacks(0, 3, 1) + c.sacks(1, 3, 1), 0);
        Check.is("2 are", 10 * c.sacks(0, 3, 2) + c.sacks(1, 3, 2), 11);
        Check.is("3", 10 * c.sacks(0, 3, 3) + c.sacks(1, 3, 3), 12);
        Check.is("99", 100 * c.sacks(0, 3, 99) + c.sacks(1, 3, 99), 198);
        Check.is("all", 100 * c.sacks(0, 3, 100) + c.sacks(1, 3, 100), 199);
        Check.is("no more than all", 100 * c.sacks(0, 3, 101) + c.sacks(1, 3, 101), 199);
        Check.is("no more than all", 100 * c.sacks(0, 3, 999) + c.sacks(1, 3, 999), 199);
        // 1 and 9 and 5 are 15, 1 and 10 and 5 are 16
        Check.is("15", c.sacks(1, 7, 15), 9);
        Check.is("16", c.sacks(1, 7, 16), 10);
        Check.is("10: 1 and 4 and 4 are 9, 1 and 5 and 5 are 11", 10 * c.sacks(1, 7, 10) + c.sacks(2, 7, 10), 44);
        Check.is("11", 10 * c.sacks(1, 7, 11) + c.sacks(2, 7, 11), 55);
        Check.work(c, "cold 1;");
        Check.is("as told", c.sacks(1, 2, 99), 99);
        Check.sentence("(0, if it is none of them)");
        for (int q = 0; q < 3; q++) {
            Check.is("none of them", c.sacks(q, 7 & ~(1 << q), 999), 0);
            Check.is("of none", c.sacks(q, 0, 999), 0);
            Check.is("it alone", c.sacks(q, 1 << q, 999), c.quarter(q, 1));
        }
    }

    private static void sacksByAll() {
        BreadCity c = Check.cityOf(SIX_OF_ALL);
        int[] given = {0, 5, 6, 11, 12, 587, 588, 593, 594, 595, 998, 999};
        int[] due = {0, 0, 1, 1, 2, 97, 98, 98, 99, 99, 99, 99};
        for (int i = 0; i < given.length; i++) {
            for (int q = 0; q < 6; q++) {
                Check.is(q + " of six gets of " + given[i], c.sacks(q, 63, given[i]), due[i]);
            }
        }
    }

    // Promise 25
    private static void leagues() {
        Check.sentence("LEAGUES: sets of QUARTERS whose noses (as told) together are more than half of all: how many;");
        Check.is("without QUARTERS", new BreadCity().leagues(), 0);
        Check.is("one", Check.cityOf("quarter 0 1;").leagues(), 1);
        Check.is("two alike: just half is none", Check.cityOf("quarter 0 9;quarter 1 9;").leagues(), 1);
        Check.is("one more", Check.cityOf("quarter 0 9;quarter 1 10;").leagues(), 2);
        Check.is("half of 19 is not cut", Check.cityOf("quarter 0 9;quarter 1 5;quarter 2 5;").leagues(), 4);
        Check.is("six alike: four of them at least", Check.cityOf(SIX_OF_ALL).leagues(), 22);
        Check.is("five alike: three of them", Check.cityOf("quarter 0 1;".repeat(5)).leagues(), 16);
        BreadCity c = Check.cityOf("quarter 0 99;" + "quarter 0 1;".repeat(5));
        Check.sentence("`int leagues()`: LEAGUES.");
        Check.is("one has more than half", c.leagues(), 32);
        Check.work(c, "cold 0;");
        Check.is("as told", c.leagues(), 32);
    }

    // Promise 26
    private static void key() {
        Check.sentence("KEY of a QUARTER: in how many of these it is and without it they were none.");
        Check.is("one", Check.cityOf("quarter 0 1;").key(0), 1);
        BreadCity two = Check.cityOf("quarter 0 9;quarter 1 9;");
        Check.is("two alike", 10 * two.key(0) + two.key(1), 11);
        BreadCity more = Check.cityOf("quarter 0 9;quarter 1 10;");
        Check.is("the lesser one is none's key", more.key(0), 0);
        Check.is("the greater one is both's", more.key(1), 2);
        BreadCity six = Check.cityOf(SIX_OF_ALL);
        for (int q = 0; q < 6; q++) {
            Check.is("with three others", six.key(q), 10);
        }
        BreadCity c = Check.cityOf("quarter 0 99;" + "quarter 0 1;".repeat(5));
        Check.sentence("`int key(int quarter) throws NoSuchElementException`: KEY.");
        Check.is("in all of 32", c.key(0), 32);
        Check.is("in none", c.key(5), 0);
        Check.work(c, "cold 0;");
        Check.is("as told", c.key(0), 32);
    }

    // Promise 27
    private static void nearest() {
        Check.sentence("The MOORING that is nearest (what 0; as by mooring(.., 2)), of alike ones the first, how far (1); "
            + "NONE both: there are none.");
        BreadCity none = new BreadCity();
        Check.is("none", none.nearest(0), -1);
        Check.is("none", none.nearest(1), -1);
        BreadCity far = Check.cityOf("city 0 0;mooring 30 30;");
        Check.is("the only one", far.nearest(0), 0);
        Check.is("60", far.nearest(1), 60);
        Check.is("as by mooring", far.mooring(0, 2), 60);
        BreadCity here = Check.cityOf("mooring 15 16;mooring 15 15;mooring 15 15;");
        Check.is("where it lies", here.nearest(0), 1);
        Check.is("0", here.nearest(1), 0);
        BreadCity alike = Check.cityOf("mooring 18 18;mooring 15 10;mooring 20 15;mooring 10 15;mooring 13 12;mooring 15 21;");
        Check.is("of alike ones the first", alike.nearest(0), 1);
        Check.is("5", alike.nearest(1), 5);
        BreadCity last = Check.cityOf("mooring 0 0;mooring 30 30;mooring 0 30;mooring 30 0;mooring 15 17;mooring 15 14;");
        Check.is("the last of six", last.nearest(0), 5);
        Check.sentence("2 how far X and Y of both are apart from where the city lies, together.");
        int[] due = {30, 30, 30, 30, 2, 1};
        for (int m = 0; m < 6; m++) {
            Check.is("how far " + m, last.mooring(m, 2), due[m]);
        }
        Check.is("reeds are not asked", Check.cityOf("mooring 17 15;reed 16 15;reed 17 15;").mooring(0, 2), 2);
    }

    // Promise 28
    private static void sweetest() {
        Check.sentence("The QUARTER of the greatest LEAN (what 0), of alike ones the first, that LEAN (1; 0 without); "
            + "NONE (0): there are none.");
        BreadCity none = new BreadCity();
        Check.is("none", none.sweetest(0), -1);
        Check.is("none", none.sweetest(1), 0);
        Check.law(none, "5");
        Check.is("none by a LAW", none.sweetest(0), -1);
        Check.is("none by a LAW", none.sweetest(1), 0);
        BreadCity c = city("quarter 0 10;quarter 1 20;quarter 2 30;quarter 3 30;quarter 0 99;quarter 0 99;", "noses");
        Check.is("of alike ones the first", c.sweetest(0), 4);
        Check.is("the LEAN", c.sweetest(1), 99);
        Check.law(c, "noses * 10");
        Check.is("99 at most, so alike", c.sweetest(0), 0);
        Check.law(c, "0 - noses");
        Check.is("the greatest below 0", c.sweetest(0), 0);
        Check.is("the LEAN", c.sweetest(1), -10);
        Check.law(c, "0 - 999");
        Check.is("all at the least", c.sweetest(0), 0);
        Check.is("the LEAN", c.sweetest(1), -99);
        Check.law(c, "onions");
        Check.work(c, "onions 5 1;");
        Check.is("the last of six", c.sweetest(0), 5);
        BreadCity lit = Check.cityOf("quarter 0 10;quarter 1 20;oven 1 9;oven 1 9;oven 0 9;");
        Check.is("no OVEN is lit", 100 * lit.sweetest(0) + lit.sweetest(1), 0);
        Check.work(lit, "light 0;light 2;hour;hour;hour;");
        Check.is("one in each, in the last hour", 100 * lit.sweetest(0) + lit.sweetest(1), 118);
        Check.work(lit, "quench 0;");
        Check.is("one in the first", 100 * lit.sweetest(0) + lit.sweetest(1), 9);
    }

    // Promise 29
    private static void heaviest() {
        Check.sentence("with most noses as told (what 0)");
        BreadCity fewer = Check.cityOf(SIX_OF_ALL + "mooring 9 9;".repeat(6));
        Check.bog(fewer, "quarter 0 1;quarter 3 2;mooring 15 15;");
        Check.is("noses of a BOG before count not", 100 * fewer.heaviest(0) + fewer.heaviest(1), 302);
        Check.is("nor in LEAGUES", fewer.leagues(), 2);
        Check.is("nor do MOORINGS", fewer.safe(), 1);
        Check.bog(fewer, "city 15 15;");
        Check.is("nor do MOORINGS", 10 * fewer.safe() + fewer.span(1, 20, 0, 1, 2), 0);
        Check.is("nor do MOORINGS", fewer.nearest(0), -1);
        Check.sentence("The side (0 to 3) with most noses as told (what 0), of alike ones the least, how many (1).");
        Check.is("without QUARTERS all are alike", new BreadCity().heaviest(0), 0);
        Check.is("without QUARTERS", new BreadCity().heaviest(1), 0);
        for (int d = 0; d < 4; d++) {
            BreadCity c = Check.cityOf(("quarter " + d + " 99;").repeat(6));
            Check.is("all to side " + d, c.heaviest(0), d);
            Check.is("594", c.heaviest(1), 594);
            BreadCity one = Check.cityOf("quarter " + d + " 1;");
            Check.is("one nose to side " + d, 10 * one.heaviest(0) + one.heaviest(1), 10 * d + 1);
            for (int other = d + 1; other < 4; other++) {
                BreadCity alike = Check.cityOf("quarter " + other + " 7;quarter " + d + " 3;quarter " + d + " 4;");
                Check.is("of alike ones the least", alike.heaviest(0), d);
                Check.is("7", alike.heaviest(1), 7);
                Check.work(alike, "cold 1;cold 2;");
                Check.is("as told", alike.heaviest(0), d);
            }
        }
    }

    // Promise 30
    private static void side() {
        Check.sentence("LEANS of all QUARTERS to a side (0 to 3) together.");
        for (int d = 0; d < 4; d++) {
            BreadCity c = city(("quarter " + d + " 99;").repeat(6), "999");
            for (int other = 0; other < 4; other++) {
                Check.is("side " + other + ", all to " + d, c.side(other), other == d ? 594 : 0);
            }
            Check.law(c, "0 - 999");
            Check.is("at the least", c.side(d), -594);
            Check.is("without QUARTERS", new BreadCity().side(d), 0);
            BreadCity lit = Check.cityOf("quarter " + d + " 20;quarter " + d + " 10;oven 0 5;oven 1 3;");
            Check.is("no OVEN is lit", lit.side(d), 0);
            Check.work(lit, "light 0;light 1;");
            Check.is("both are", lit.side(d), 13);
            Check.work(lit, "hour;hour;hour;");
            Check.is("in the last hour", lit.side(d), 13);
            Check.work(lit, "hour;");
            Check.is("both are out", lit.side(d), 0);
        }
    }

    // Promise 31
    private static void room() {
        Check.sentence("How many cells there are from where it lies to a side (0 to 3), one behind the other, ahead of a reed, "
            + "or of the end (30, or 0).");
        for (int i = 0; i <= 30; i++) {
            BreadCity c = Check.cityOf("city " + i + " " + (30 - i) + ";");
            int[] due = {i, 30 - i, 30 - i, i};
            for (int d = 0; d < 4; d++) {
                Check.is("room(" + d + ") at " + i, c.room(d), due[d]);
            }
        }
    }

    private static void roomByReeds() {
        int[] dx = {0, 1, 0, -1};
        int[] dy = {1, 0, -1, 0};
        for (int d = 0; d < 4; d++) {
            for (int far = 1; far <= 15; far++) {
                int x = 15 + far * dx[d];
                int y = 15 + far * dy[d];
                BreadCity c = Check.cityOf("reed 15 15;reed " + x + " " + y + ";reed " + (15 + 15 * dx[d]) + " " + (15 + 15 * dy[d]) + ";");
                for (int other = 0; other < 4; other++) {
                    Check.is("room(" + other + ") by a reed to " + d, c.room(other), other == d ? far - 1 : 15);
                }
            }
        }
    }

    // Promise 33
    private static void cool() {
        Check.sentence("OVENS that are not lit: 0 as bits, 1 the strongest of them, of alike ones the first (NONE).");
        Check.is("without OVENS", new BreadCity().cool(0), 0);
        Check.is("without OVENS", new BreadCity().cool(1), -1);
        BreadCity c = Check.cityOf("quarter 0 1;oven 0 1;oven 0 9;oven 0 9;oven 0 1;oven 0 2;oven 0 8;oven 0 1;oven 0 1;flour 99;");
        int[] order = {1, 2, 5, 4, 0, 3, 6, 7};
        int bits = 255;
        for (int o : order) {
            Check.is("bits", c.cool(0), bits);
            Check.is("the strongest of " + bits, c.cool(1), o);
            Check.work(c, "light " + o + ";");
            bits = bits & ~(1 << o);
        }
        Check.is("all are lit", c.cool(0), 0);
        Check.is("all are lit", c.cool(1), -1);
        Check.work(c, "hour;hour;hour;");
        Check.is("in the last hour", c.cool(0), 0);
        Check.work(c, "hour;");
        Check.is("all are out", c.cool(0), 255);
        Check.work(c, "light 0;quench 0;");
        Check.is("quenched", c.cool(0), 255);
    }

    // Promise 34
    private static void safe() {
        Check.sentence("MOORINGS (bits) of which all four cells beside are of the bog, and none of these is a reed.");
        Check.is("none", new BreadCity().safe(), 0);
        String[] ends = {"0 0", "0 15", "0 30", "15 0", "15 30", "30 0", "30 15", "30 30"};
        for (String end : ends) {
            Check.is("at the end " + end, Check.cityOf("mooring " + end + ";").safe(), 0);
        }
        String[] within = {"1 1", "1 15", "1 29", "15 1", "15 29", "29 1", "29 15", "29 29"};
        for (String place : within) {
            Check.is("within " + place, Check.cityOf("mooring " + place + ";").safe(), 1);
        }
        int[] dx = {0, 1, 0, -1};
        int[] dy = {1, 0, -1, 0};
        for (int d = 0; d < 4; d++) {
            Check.is("a reed beside", Check.cityOf("mooring 9 9;reed " + (9 + dx[d]) + " " + (9 + dy[d]) + ";").safe(), 0);
            Check.is("a reed two off", Check.cityOf("mooring 9 9;reed " + (9 + 2 * dx[d]) + " " + (9 + 2 * dy[d]) + ";").safe(), 1);
        }
        Check.is("a reed in it, and aslant", Check.cityOf("mooring 9 9;reed 9 9;reed 8 8;reed 8 10;reed 10 8;reed 10 10;").safe(), 1);
        Check.is("all six", Check.cityOf("mooring 9 9;".repeat(6)).safe(), 63);
        Check.is("the last", Check.cityOf("mooring 0 0;".repeat(5) + "mooring 1 1;").safe(), 32);
    }

    /** The numbers that a SEED draws, by 64 bits of which 32 count. */
    private static int[] drawn(int seed, int many) {
        int[] drawn = new int[many];
        long s = seed & 0xffffffffL;
        for (int i = 0; i < many; i++) {
            s = s * 1103515245L + 12345L & 0xffffffffL;
            drawn[i] = (int) (s / 65536 % 32768);
        }
        return drawn;
    }

    private static final int[] SEEDS = {0, 1, 2, 3, 4, 5, 6, 7, 23, 12345, 65535, 65536, 1 << 30, Integer.MAX_VALUE - 1,
        Integer.MAX_VALUE, Integer.MIN_VALUE, Integer.MIN_VALUE + 1, -65536, -65535, -12345, -2, -1};

    private static void draws() {
        Check.sentence("DRAW: the SEED (32 bits) becomes itself times 1,103,515,245, and 12,345 (it wraps); its bits 16 to 30, "
            + "what is left of them.");
        // each OVEN goes a way of its own
        String[] ovens = {"oven 0 1;", "oven 0 2;", "oven 0 3;", "oven 1 1;", "oven 1 2;", "oven 1 3;", "oven 2 1;", "oven 2 2;"};
        int[] x = {1, 2, 3, -1, -2, -3, 0, 0};
        int[] y = {0, 0, 0, 0, 0, 0, 1, 2};
        String bog = "quarter 1 9;quarter 3 9;quarter 0 9;";
        for (int many = 1; many <= 8; many++) {
            bog = bog + ovens[many - 1];
            BreadCity c = city(bog, "bread * 10");
            for (int seed : SEEDS) {
                int oven = drawn(seed, 1)[0] % many;
                Check.is("x by SEED " + seed + " of " + many, c.season(seed, 0, 1, 0), 15 + x[oven]);
                Check.is("y by SEED " + seed + " of " + many, c.season(seed, 0, 1, 1), 15 + y[oven]);
                Check.is("flour by SEED " + seed + " of " + many, c.season(seed, 0, 1, 2), 8);
            }
        }
    }

    private static void drawsOfColds() {
        Check.sentence("DRAW by how many QUARTERS; DRAW by 16 below C: cold of that QUARTER; then hour.");
        // 30 less 12 to the east, 20 to the north; each cold goes a way of its own
        BreadCity c = city("quarter 1 30;quarter 3 12;quarter 0 20;oven 0 1;", "noses");
        int[] x = {0, 2, 1};
        int[] y = {2, 2, 1};
        int[] nights = new int[17];
        for (int seed : SEEDS) {
            int[] drawn = drawn(seed, 3);
            int q = drawn[1] % 3;
            for (int cold = 0; cold <= 16; cold++) {
                boolean has = drawn[2] % 16 < cold;
                nights[cold] += has ? 1 : 0;
                String what = " by SEED " + seed + ", C " + cold;
                Check.is("x" + what, c.season(seed, cold, 1, 0), 15 + (has ? x[q] : 1));
                Check.is("y" + what, c.season(seed, cold, 1, 1), 15 + (has ? y[q] : 2));
            }
        }
        Check.is("never below 0", nights[0], 0);
        Check.is("always below 16", nights[16], SEEDS.length);
        BreadCity one = city("quarter 1 20;oven 0 1;", "noses");
        Check.work(one, "cold 0;");
        Check.is("C 0: the cold stays", one.season(9, 0, 1, 0), 16);
        Check.is("C 16: no more", one.season(9, 16, 1, 0), 17);
        Check.is("C 16: no more, and one again", one.season(9, 16, 2, 0), 18);
        Check.is("C 16 in 4 hours", one.season(9, 16, 4, 0), 21);
    }

    // Promise 35
    private static void seasons() {
        Check.sentence("A SEASON by a SEED: for so many HOURS: DRAW by how many OVENS there are: light (if it can be done);");
        BreadCity c = city("quarter 1 20;oven 0 5;city 0 15;flour 99;", "lit * 10");
        // lit anew as soon as it is out
        Check.is("1 hour", c.season(1, 0, 1, 0), 1);
        Check.is("30 hours", c.season(1, 0, 30, 0), 30);
        Check.is("flour by 4 hours", c.season(1, 0, 4, 2), 98);
        Check.is("flour by 5 hours", c.season(1, 0, 5, 2), 97);
        Check.is("flour by 96 hours", c.season(1, 0, 96, 2), 75);
        Check.is("aground by 30 hours", c.season(1, 0, 30, 3), 0);
        Check.is("aground by 31 hours", c.season(1, 0, 31, 3), 1);
        Check.is("aground by 96 hours", c.season(1, 0, 96, 3), 66);
        Check.work(c, "light 0;hour;");
        Check.is("lit for 3 hours more", c.season(1, 0, 3, 2), 98);
        Check.is("then lit anew", c.season(1, 0, 4, 2), 97);
        Check.law(c, "30");
        Check.work(c, "again 20[hour;];");
        Check.is("it ran aground", c.told(8), 11);
        Check.is("with what was", c.season(1, 0, 1, 3), 12);
    }

    private static void seasonsOfFlour() {
        BreadCity none = city("quarter 1 20;oven 0 5;flour 0;", "lit * 10");
        Check.is("no flour: it can't be done", none.season(1, 0, 96, 0), 15);
        Check.is("no flour", none.season(1, 0, 96, 2), 0);
        BreadCity one = city("quarter 1 20;oven 0 5;flour 1;", "lit * 10");
        Check.is("one flour: 4 hours", one.season(1, 0, 96, 0), 19);
        Check.is("one flour", one.season(1, 0, 96, 2), 0);
        BreadCity colds = city("quarter 1 20;oven 0 5;flour 0;", "noses");
        // without flour the QUARTER has colds all the same
        Check.is("a cold in every other hour", colds.season(1, 16, 4, 0), 21);
    }

    private static void seasonsWithoutOvens() {
        Check.sentence("Without OVENS nothing is DRAWN, HOURS go by.");
        BreadCity c = city("quarter 1 20;city 0 15;", "noses");
        Check.is("no cold", c.season(1, 16, 10, 0), 20);
        Check.is("15 hours to the end", c.season(1, 16, 96, 3), 81);
        BreadCity none = new BreadCity();
        Check.is("without QUARTERS", 100 * none.season(1, 16, 96, 0) + none.season(1, 16, 96, 1), 1515);
        Check.is("flour", none.season(1, 16, 96, 2), 9);
        Check.is("aground", none.season(1, 16, 96, 3), 0);
    }

    // Promise 36
    private static void span() {
        Check.sentence("0 the least X then, 1 the most, 2 by how many it lies at a MOORING then (any).");
        BreadCity c = city("quarter 1 9;quarter 3 9;oven 0 1;oven 0 2;oven 0 3;oven 1 1;oven 1 2;oven 1 3;"
            + "mooring 12 15;mooring 18 15;mooring 18 15;mooring 16 16;", "bread * 10");
        for (int many = 1; many <= 20; many++) {
            for (int seed : SEEDS) {
                int least = 30;
                int most = 0;
                int moored = 0;
                for (int i = 0; i < many; i++) {
                    int x = c.season(seed + i, 0, 1, 0);
                    least = Math.min(least, x);
                    most = Math.max(most, x);
                    moored += x == 12 || x == 18 ? 1 : 0;
                }
                String what = " by " + many + " from " + seed;
                Check.is("least" + what, c.span(seed, many, 0, 1, 0), least);
                Check.is("most" + what, c.span(seed, many, 0, 1, 1), most);
                Check.is("moored" + what, c.span(seed, many, 0, 1, 2), moored);
            }
        }
    }

    private static void spanWraps() {
        Check.sentence("Of so many SEEDS (1 to 20; seed, seed and 1, ..)");
        BreadCity c = city("quarter 1 9;quarter 3 9;oven 0 1;oven 0 2;oven 0 3;oven 1 1;oven 1 2;oven 1 3;", "bread * 10");
        int last = c.season(Integer.MAX_VALUE, 0, 1, 0);
        int first = c.season(Integer.MIN_VALUE, 0, 1, 0);
        Check.is("one", c.span(Integer.MAX_VALUE, 1, 0, 1, 0), last);
        Check.is("behind the greatest comes the least", c.span(Integer.MAX_VALUE, 2, 0, 1, 0), Math.min(last, first));
        Check.is("behind the greatest comes the least", c.span(Integer.MAX_VALUE, 2, 0, 1, 1), Math.max(last, first));
        BreadCity none = Check.cityOf("mooring 15 15;mooring 15 15;");
        Check.is("without OVENS, all at a MOORING, each once", none.span(-5, 20, 16, 96, 2), 20);
        Check.is("at the end", city("quarter 1 1;", "30").span(1, 20, 0, 96, 0), 30);
        Check.is("at the other end", city("quarter 3 1;", "30").span(1, 20, 0, 96, 1), 0);
        Check.is("without MOORINGS", new BreadCity().span(1, 20, 0, 1, 2), 0);
        Check.is("without MOORINGS, at 0 0", Check.cityOf("city 0 0;").span(1, 20, 0, 1, 2), 0);
        Check.is("a MOORING at 0 0", Check.cityOf("city 0 0;mooring 0 1;mooring 1 0;mooring 0 0;").span(1, 20, 0, 1, 2), 20);
    }
}
