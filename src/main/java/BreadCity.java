import java.util.NoSuchElementException;

/** A city that is steered by the smell of bread; ../shared/DOC.md says what each call promises. */
public final class BreadCity {
    public static final int NONE = -1;

    private static final int SIDES = 4;
    private static final int NORTH = 0;
    private static final int EAST = 1;
    private static final int SOUTH = 2;
    private static final int WEST = 3;
    private static final int LAST_CELL = 30;
    private static final int QUARTERS_MOST = 6;
    private static final int OVENS_MOST = 8;
    private static final int MOORINGS_MOST = 6;
    private static final int NOSES_MOST = 99;
    private static final int ONIONS_MOST = 99;
    private static final int BREAD_MOST = 72;
    private static final int HOUR_LAST = 900;
    private static final int LIT_HOURS = 4;
    private static final int TAPE_MOST = 600;
    private static final int FEED_BYTES = 20;
    private static final int LAW_TEXT_MOST = 150;
    private static final int WORK_TEXT_MOST = 150;
    private static final int BOOK_TEXT_MOST = 60;
    private static final int WORKS_MOST = 16;
    private static final int IMAGES_MOST = 3;
    private static final int OPEN_MOST = 6;
    private static final int TRACK_HOURS = 12;
    private static final int AHEAD_MOST = 99;
    private static final int WRECK_HOURS = 200;
    private static final int SEASON_HOURS = 96;
    private static final int SIXTEEN = 16;
    private static final int SEEDS_MOST = 20;
    private static final int BATCHES_MOST = 9;
    private static final int PRIZE_MOST = 99;
    private static final int SACKS_MOST = 999;
    private static final int FAULT_LESS = 10;
    private static final int TOO_MANY_WORKS = -20;

    private final Text text;
    private final Bog bog;
    private final Bog bogDraft;
    private final Law law;
    private final Plan plan;
    private final Lines lines;
    private final City city;
    private final City trial;
    private final Past past;
    private final Tracks tracks;
    private final Reach reach;
    private int refusedSteps;
    private int missingCalls;
    private int unfitCalls;

    public BreadCity() {
        text = new Text();
        bog = new Bog();
        bogDraft = new Bog();
        law = new Law();
        plan = new Plan();
        lines = new Lines();
        city = new City(bog, law);
        trial = new City(bog, law);
        past = new Past();
        tracks = new Tracks(bog, lines, city, trial);
        reach = new Reach(bog);
    }

    // ---- texts ----

    public int feed(int a, int b, int c, int d, int e) {
        if (text.taped + FEED_BYTES > TAPE_MOST) {
            return NONE;
        }
        text.append(a);
        text.append(b);
        text.append(c);
        text.append(d);
        text.append(e);
        return text.taped;
    }

    public int bog(int n) throws IllegalArgumentException {
        needText(n, TAPE_MOST);
        text.begin(n);
        bogDraft.readFrom(text);
        if (!text.isSound()) {
            return text.faultKind - FAULT_LESS;
        }
        bog.become(bogDraft);
        law.becomeFirst();
        lines.forget();
        past.forget();
        city.beginNight();
        noteChange();
        return bog.ovens;
    }

    public int law(int n) throws IllegalArgumentException {
        needText(n, LAW_TEXT_MOST);
        text.begin(n);
        law.readFrom(text);
        if (!text.isSound()) {
            return text.faultKind - FAULT_LESS;
        }
        law.adopt();
        tracks.forget();
        return 1;
    }

    public int work(int n) throws IllegalArgumentException {
        needText(n, WORK_TEXT_MOST);
        if (past.works >= WORKS_MOST) {
            text.begin(0);
            return TOO_MANY_WORKS;
        }
        text.begin(n);
        plan.readFrom(text, bog);
        if (!text.isSound()) {
            return text.faultKind - FAULT_LESS;
        }
        past.keepWork(city);
        noteChange();
        plan.beginRun();
        plan.run(city, 0, plan.length, 0);
        refusedSteps = plan.refused;
        return plan.done;
    }

    public int book(int n) throws IllegalArgumentException {
        needText(n, BOOK_TEXT_MOST);
        text.begin(n);
        lines.readFrom(text);
        if (!text.isSound()) {
            return text.faultKind - FAULT_LESS;
        }
        lines.adopt();
        return lines.length;
    }

    public int fault() {
        return text.faultPlace;
    }

    public int undo() {
        if (past.works <= 0) {
            return NONE;
        }
        past.undoWork(city);
        noteChange();
        return past.works;
    }

    // ---- what is told and how it stands ----

    public int told(int what) throws IllegalArgumentException {
        needWithin(what, 0, 11);
        switch (what) {
            case 0: return bog.quarters;
            case 1: return bog.ovens;
            case 2: return bog.reeds;
            case 3: return bog.moorings;
            case 4: return city.hour;
            case 5: return city.x;
            case 6: return city.y;
            case 7: return city.flour;
            case 8: return city.aground;
            case 9: return lines.length;
            case 10: return refusedSteps;
            default: return city.litBits(0);
        }
    }

    public int quarter(int quarter, int what) throws NoSuchElementException, IllegalArgumentException {
        needThere(quarter, bog.quarters);
        needWithin(what, 0, 6);
        city.smell(city.litBits(0));
        switch (what) {
            case 0: return bog.sideOf(quarter);
            case 1: return bog.nosesOf(quarter);
            case 2: return city.breadOf(quarter);
            case 3: return city.onionsOf(quarter);
            case 4: return city.coldOf(quarter);
            case 5: return city.leanOf(quarter, city.hour);
            default: return bog.ovensIn(quarter);
        }
    }

    public int oven(int oven, int what) throws NoSuchElementException, IllegalArgumentException {
        needThere(oven, bog.ovens);
        needWithin(what, 0, 3);
        switch (what) {
            case 0: return bog.quarterOf(oven);
            case 1: return bog.strongOf(oven);
            case 2: return city.hoursLeftOf(oven);
            default: return city.timesLitOf(oven);
        }
    }

    public int mooring(int mooring, int what) throws NoSuchElementException, IllegalArgumentException {
        needThere(mooring, bog.moorings);
        needWithin(what, 0, 2);
        switch (what) {
            case 0: return bog.mooringX(mooring);
            case 1: return bog.mooringY(mooring);
            default: return farTo(mooring);
        }
    }

    public int reed(int x, int y) throws IllegalArgumentException {
        needWithin(x, 0, LAST_CELL);
        needWithin(y, 0, LAST_CELL);
        return bog.isReed(x, y) ? 1 : 0;
    }

    // ---- where it leans and drifts ----

    public int drift(int what) throws IllegalArgumentException {
        needWithin(what, 0, 1);
        city.reckon(city.litBits(0), city.hour);
        return what == 0 ? city.east : city.north;
    }

    public int would(int bread, int noses, int lit, int others, int onions, int side, int hour)
            throws IllegalArgumentException {
        needWithin(bread, 0, BREAD_MOST);
        needWithin(noses, 0, NOSES_MOST);
        needWithin(lit, 0, OVENS_MOST);
        needWithin(others, 0, BREAD_MOST);
        needWithin(onions, 0, ONIONS_MOST);
        needWithin(side, 0, WEST);
        needWithin(hour, 0, HOUR_LAST);
        return law.lean(bread, noses, lit, others, onions, side, hour);
    }

    public int ahead(int n, int what) throws IllegalArgumentException {
        needWithin(n, 0, AHEAD_MOST);
        needWithin(what, 0, 3);
        trial.become(city);
        for (int i = 0; i < n; i++) {
            trial.passHour();
        }
        switch (what) {
            case 0: return trial.x;
            case 1: return trial.y;
            case 2: return trial.aground;
            default: return trial.litBits(0);
        }
    }

    public int pilot(int mooring, int n) throws NoSuchElementException, IllegalArgumentException {
        needThere(mooring, bog.moorings);
        needWithin(n, 0, TRACK_HOURS);
        tracks.reckonAll();
        return tracks.fewestTo(bog.mooringX(mooring), bog.mooringY(mooring), n);
    }

    public int trim(int quarter) throws NoSuchElementException {
        needThere(quarter, bog.quarters);
        int lit = city.litBits(0);
        trial.become(city);
        for (int n = 0; n <= ONIONS_MOST; n++) {
            trial.putOnions(quarter, n);
            trial.reckon(lit, city.hour);
            if (trial.east == 0 && trial.north == 0) {
                return n;
            }
        }
        return NONE;
    }

    public int steps(int mooring) throws NoSuchElementException {
        needThere(mooring, bog.moorings);
        return reach.fewestCells(city.x, city.y, bog.mooringX(mooring), bog.mooringY(mooring));
    }

    // ---- which ovens it was ----

    public int fits(int what) throws IllegalArgumentException {
        needWithin(what, 0, 2);
        tracks.reckonAll();
        tracks.reckonFits();
        switch (what) {
            case 0: return tracks.fitting;
            case 1: return tracks.firstFit;
            default: return tracks.sure;
        }
    }

    public int look(int what) throws IllegalArgumentException {
        needWithin(what, 0, 1);
        tracks.reckonAll();
        tracks.reckonFits();
        tracks.reckonLook();
        return what == 0 ? tracks.lookHour : tracks.lookWorst;
    }

    // ---- reckonings beside the city ----

    public long gusts(int n, int k, int q, int part) throws IllegalArgumentException {
        needWithin(n, 0, TRACK_HOURS);
        needWithin(k, 0, TRACK_HOURS);
        needWithin(q, 0, SIXTEEN);
        needWithin(part, 0, 1);
        long above = k > n ? 0 : ways(n, k) * power(q, k) * power(SIXTEEN - q, n - k);
        long below = power(SIXTEEN, n);
        // 16 to the n has no divisor but two, 48 times at most, so halving alone gives least terms
        for (int i = 0; i < 48 && above % 2 == 0 && below % 2 == 0; i++) {
            above = above / 2;
            below = below / 2;
        }
        return part == 0 ? above : below;
    }

    private static long ways(int n, int k) {
        long ways = 1;
        for (int i = 1; i <= k; i++) {
            ways = ways * (n - k + i) / i;
        }
        return ways;
    }

    private static long power(int base, int times) {
        long power = 1;
        for (int i = 0; i < times; i++) {
            power = power * base;
        }
        return power;
    }

    public int bakers(int k, int v, int what) throws IllegalArgumentException {
        needWithin(k, 0, BATCHES_MOST);
        needWithin(v, 0, PRIZE_MOST);
        needWithin(what, 0, 2);
        int many = 0;
        int first = NONE;
        int both = 0;
        for (int one = 0; one <= k; one++) {
            for (int other = 0; other <= k; other++) {
                if (isBest(one, other, k, v) && isBest(other, one, k, v)) {
                    many++;
                    if (first == NONE) {
                        first = 10 * one + other;
                        both = gain(one, other, v) + gain(other, one, v);
                    }
                }
            }
        }
        return what == 0 ? many : what == 1 ? first : both;
    }

    private static boolean isBest(int mine, int others, int k, int v) {
        for (int i = 0; i <= k; i++) {
            if (gain(i, others, v) > gain(mine, others, v)) {
                return false;
            }
        }
        return true;
    }

    private static int gain(int mine, int others, int v) {
        if (mine > others) {
            return v - mine;
        }
        return mine < others ? -mine : v / 2 - mine;
    }

    public int sacks(int quarter, int quarters, int n) throws NoSuchElementException, IllegalArgumentException {
        needThere(quarter, bog.quarters);
        needWithin(quarters, 0, bog.quarterSets() - 1);
        needWithin(n, 0, SACKS_MOST);
        if ((quarters >> quarter & 1) == 0) {
            return 0;
        }
        int bound = 0;
        for (int i = 1; i <= NOSES_MOST; i++) {
            if (givenBy(quarters, i) <= n) {
                bound = i;
            }
        }
        return Math.min(bog.nosesOf(quarter), bound);
    }

    private int givenBy(int quarters, int bound) {
        int given = 0;
        for (int q = 0; q < bog.quarters; q++) {
            if ((quarters >> q & 1) == 1) {
                given += Math.min(bog.nosesOf(q), bound);
            }
        }
        return given;
    }

    public int leagues() {
        int many = 0;
        for (int set = 0; set < bog.quarterSets(); set++) {
            if (isLeague(set)) {
                many++;
            }
        }
        return many;
    }

    public int key(int quarter) throws NoSuchElementException {
        needThere(quarter, bog.quarters);
        int bit = 1 << quarter;
        int many = 0;
        for (int set = 0; set < bog.quarterSets(); set++) {
            if ((set & bit) != 0 && isLeague(set) && !isLeague(set & ~bit)) {
                many++;
            }
        }
        return many;
    }

    private boolean isLeague(int quarters) {
        int all = givenBy(bog.quarterSets() - 1, NOSES_MOST);
        return 2 * givenBy(quarters, NOSES_MOST) > all;
    }

    // ---- the nearest, the greatest, what lies around ----

    public int nearest(int what) throws IllegalArgumentException {
        needWithin(what, 0, 1);
        int first = NONE;
        int least = NONE;
        for (int m = 0; m < bog.moorings; m++) {
            int far = farTo(m);
            if (first == NONE || far < least) {
                first = m;
                least = far;
            }
        }
        return what == 0 ? first : least;
    }

    private int farTo(int mooring) {
        return Math.abs(bog.mooringX(mooring) - city.x) + Math.abs(bog.mooringY(mooring) - city.y);
    }

    public int sweetest(int what) throws IllegalArgumentException {
        needWithin(what, 0, 1);
        city.smell(city.litBits(0));
        int first = NONE;
        int most = 0;
        for (int q = 0; q < bog.quarters; q++) {
            int lean = city.leanOf(q, city.hour);
            if (first == NONE || lean > most) {
                first = q;
                most = lean;
            }
        }
        return what == 0 ? first : most;
    }

    public int heaviest(int what) throws IllegalArgumentException {
        needWithin(what, 0, 1);
        int first = 0;
        int most = nosesTo(0);
        for (int d = 1; d < SIDES; d++) {
            int noses = nosesTo(d);
            if (noses > most) {
                first = d;
                most = noses;
            }
        }
        return what == 0 ? first : most;
    }

    private int nosesTo(int d) {
        int noses = 0;
        for (int q = 0; q < bog.quarters; q++) {
            if (bog.sideOf(q) == d) {
                noses += bog.nosesOf(q);
            }
        }
        return noses;
    }

    public int side(int d) throws IllegalArgumentException {
        needWithin(d, 0, WEST);
        city.reckon(city.litBits(0), city.hour);
        return city.leansTo(d);
    }

    public int room(int d) throws IllegalArgumentException {
        needWithin(d, 0, WEST);
        int wayX = d == EAST ? 1 : d == WEST ? -1 : 0;
        int wayY = d == NORTH ? 1 : d == SOUTH ? -1 : 0;
        int cells = 0;
        for (int i = 1; i <= LAST_CELL; i++) {
            if (!bog.isOpen(city.x + i * wayX, city.y + i * wayY)) {
                return cells;
            }
            cells++;
        }
        return cells;
    }

    public int wreck() {
        trial.become(city);
        for (int i = 1; i <= WRECK_HOURS; i++) {
            trial.passHour();
            if (trial.aground > city.aground) {
                return i;
            }
        }
        return NONE;
    }

    public int cool(int what) throws IllegalArgumentException {
        needWithin(what, 0, 1);
        int cool = city.coolBits();
        if (what == 0) {
            return cool;
        }
        int first = NONE;
        int most = 0;
        for (int o = 0; o < bog.ovens; o++) {
            if ((cool >> o & 1) == 1 && bog.strongOf(o) > most) {
                first = o;
                most = bog.strongOf(o);
            }
        }
        return first;
    }

    public int safe() {
        int bits = 0;
        for (int m = 0; m < bog.moorings; m++) {
            int x = bog.mooringX(m);
            int y = bog.mooringY(m);
            if (bog.isOpen(x + 1, y) && bog.isOpen(x - 1, y) && bog.isOpen(x, y + 1) && bog.isOpen(x, y - 1)) {
                bits |= 1 << m;
            }
        }
        return bits;
    }

    // ---- seasons ----

    public int season(int seed, int c, int hours, int what) throws IllegalArgumentException {
        needWithin(c, 0, SIXTEEN);
        needWithin(hours, 1, SEASON_HOURS);
        needWithin(what, 0, 3);
        runSeason(seed, c, hours);
        switch (what) {
            case 0: return trial.x;
            case 1: return trial.y;
            case 2: return trial.flour;
            default: return trial.aground;
        }
    }

    public int span(int seed, int many, int c, int hours, int what) throws IllegalArgumentException {
        needWithin(many, 1, SEEDS_MOST);
        needWithin(c, 0, SIXTEEN);
        needWithin(hours, 1, SEASON_HOURS);
        needWithin(what, 0, 2);
        int least = LAST_CELL;
        int most = 0;
        int moored = 0;
        for (int i = 0; i < many; i++) {
            runSeason(seed + i, c, hours);
            least = Math.min(least, trial.x);
            most = Math.max(most, trial.x);
            moored += bog.isMooring(trial.x, trial.y) ? 1 : 0;
        }
        return what == 0 ? least : what == 1 ? most : moored;
    }

    private void runSeason(int seed, int c, int hours) {
        trial.become(city);
        trial.seed = seed;
        for (int i = 0; i < hours; i++) {
            trial.chance(c);
            trial.passHour();
        }
    }

    // ---- images and counts ----

    public int image() {
        if (past.images >= IMAGES_MOST) {
            return NONE;
        }
        past.keepImage(city);
        return past.images;
    }

    public int restore() {
        if (past.images <= 0) {
            return NONE;
        }
        past.restoreImage(city);
        noteChange();
        return past.images;
    }

    public int status(int what) {
        return what == 0 ? missingCalls : what == 1 ? unfitCalls : NONE;
    }

    public int count(int what) {
        switch (what) {
            case 0: return past.images;
            case 1: return text.taped;
            case 2: return past.works;
            default: return NONE;
        }
    }

    private void noteChange() {
        refusedSteps = 0;
        tracks.forget();
    }

    private void needText(int n, int most) {
        needWithin(n, 0, Math.min(text.taped, most));
    }

    private void needWithin(int value, int least, int most) {
        if (value < least || value > most) {
            unfitCalls++;
            throw new IllegalArgumentException("an argument is out of its range");
        }
    }

    private void needThere(int number, int many) {
        if (number < 0 || number >= many) {
            missingCalls++;
            throw new NoSuchElementException("there is none of this number");
        }
    }

    /** The TAPE, and the reading of a text from it; only the first FAULT is kept, so readers may go on blindly. */
    private static final class Text {
        static final int CANNOT_STAND = 1;
        static final int NO_SUCH_NUMBER = 2;
        static final int TOO_MANY = 3;
        // far above every number that a text may tell, and far below what wraps
        private static final int NUMBER_CAP = 1000000;

        private final byte[] bytes = new byte[TAPE_MOST];
        int taped;
        private int end;
        // blanks are passed over at once, so this is where the next token begins
        private int at;
        // where the number or word read last began
        int mark;
        int faultKind;
        int faultPlace = NONE;

        void append(int number) {
            for (int shift = 24; shift >= 0; shift -= 8) {
                if (taped >= 0 && taped < bytes.length) {
                    bytes[taped] = (byte) (number >> shift);
                    taped++;
                }
            }
        }

        void begin(int n) {
            taped = 0;
            end = Math.max(0, Math.min(n, bytes.length));
            at = 0;
            mark = 0;
            faultKind = 0;
            faultPlace = NONE;
            passBlanks();
        }

        boolean isSound() {
            return faultKind == 0;
        }

        void accuse(int kind, int place) {
            if (faultKind == 0) {
                faultKind = kind;
                faultPlace = place;
            }
        }

        private void passBlanks() {
            while (at >= 0 && at < end && at < bytes.length && bytes[at] == ' ') {
                at++;
            }
        }

        /** NONE at the end. */
        private int next() {
            return at >= 0 && at < end && at < bytes.length ? bytes[at] : NONE;
        }

        boolean goesOn() {
            return isSound() && at < end;
        }

        boolean nextIs(char sign) {
            return next() == sign;
        }

        boolean nextIsDigit() {
            return next() >= '0' && next() <= '9';
        }

        private boolean nextIsLetter() {
            return next() >= 'a' && next() <= 'z';
        }

        boolean takes(char sign) {
            if (!isSound() || next() != sign) {
                return false;
            }
            mark = at;
            at++;
            passBlanks();
            return true;
        }

        void need(char sign) {
            if (next() != sign) {
                accuse(CANNOT_STAND, at);
                return;
            }
            at++;
            passBlanks();
        }

        void needEnd() {
            if (at < end) {
                accuse(CANNOT_STAND, at);
            }
        }

        int number(int least, int most) {
            mark = at;
            if (!nextIsDigit()) {
                accuse(CANNOT_STAND, at);
                return least;
            }
            int value = 0;
            while (at < end && nextIsDigit()) {
                value = Math.min(NUMBER_CAP, value * 10 + next() - '0');
                at++;
            }
            passBlanks();
            if (value < least || value > most) {
                accuse(NO_SUCH_NUMBER, mark);
            }
            return value;
        }

        /** Which of the words (each with a blank behind it) stands here; NONE is a FAULT. */
        int word(String words) {
            mark = at;
            while (at < end && nextIsLetter()) {
                at++;
            }
            int length = at - mark;
            passBlanks();
            int which = 0;
            int from = 0;
            for (int i = 0; i < words.length(); i++) {
                if (words.charAt(i) == ' ') {
                    if (i - from == length && isAtMark(words, from, i)) {
                        return which;
                    }
                    which++;
                    from = i + 1;
                }
            }
            accuse(CANNOT_STAND, mark);
            return NONE;
        }

        private boolean isAtMark(String words, int from, int to) {
            for (int i = from; i < to && i < words.length(); i++) {
                int place = mark + i - from;
                if (place < 0 || place >= bytes.length || bytes[place] != words.charAt(i)) {
                    return false;
                }
            }
            return true;
        }
    }

    /** The BOG as it is told; nothing that WORK changes. */
    private static final class Bog {
        private static final String WORDS = "quarter oven reed mooring city flour ";
        private static final int CLAUSES_MOST = 60;
        private static final int REEDS_MOST = 12;
        private static final int FLOUR_MOST = 99;
        private static final int STRONG_MOST = 9;

        int quarters;
        int ovens;
        int reeds;
        int moorings;
        int startX;
        int startY;
        int startFlour;
        private final int[] sides = new int[QUARTERS_MOST];
        private final int[] noses = new int[QUARTERS_MOST];
        private final int[] homes = new int[OVENS_MOST];
        private final int[] strongs = new int[OVENS_MOST];
        private final int[] mooringXs = new int[MOORINGS_MOST];
        private final int[] mooringYs = new int[MOORINGS_MOST];
        // a row for each Y, a bit for each X
        private final int[] reedRows = new int[LAST_CELL + 1];

        Bog() {
            empty();
        }

        private void empty() {
            quarters = 0;
            ovens = 0;
            reeds = 0;
            moorings = 0;
            startX = 15;
            startY = 15;
            startFlour = 9;
            for (int y = 0; y < reedRows.length; y++) {
                reedRows[y] = 0;
            }
        }

        void become(Bog other) {
            quarters = other.quarters;
            ovens = other.ovens;
            reeds = other.reeds;
            moorings = other.moorings;
            startX = other.startX;
            startY = other.startY;
            startFlour = other.startFlour;
            copyRow(other.sides, sides);
            copyRow(other.noses, noses);
            copyRow(other.homes, homes);
            copyRow(other.strongs, strongs);
            copyRow(other.mooringXs, mooringXs);
            copyRow(other.mooringYs, mooringYs);
            copyRow(other.reedRows, reedRows);
        }

        void readFrom(Text text) {
            empty();
            // one more than there may be, so that it is told as a FAULT
            for (int clauses = 0; clauses <= CLAUSES_MOST && text.goesOn(); clauses++) {
                readClause(text, clauses);
                text.need(';');
            }
        }

        private void readClause(Text text, int clauses) {
            int which = text.word(WORDS);
            if (clauses >= CLAUSES_MOST) {
                text.accuse(Text.TOO_MANY, text.mark);
            }
            switch (which) {
                case 0: readQuarter(text); break;
                case 1: readOven(text); break;
                case 2: readReed(text); break;
                case 3: readMooring(text); break;
                case 4:
                    startX = text.number(0, LAST_CELL);
                    startY = text.number(0, LAST_CELL);
                    break;
                case 5: startFlour = text.number(0, FLOUR_MOST); break;
                default: break;
            }
        }

        private void readQuarter(Text text) {
            if (quarters >= QUARTERS_MOST) {
                text.accuse(Text.TOO_MANY, text.mark);
            }
            int d = text.number(0, WEST);
            int n = text.number(1, NOSES_MOST);
            if (text.isSound() && quarters < sides.length && quarters < noses.length) {
                sides[quarters] = d;
                noses[quarters] = n;
                quarters++;
            }
        }

        private void readOven(Text text) {
            if (ovens >= OVENS_MOST) {
                text.accuse(Text.TOO_MANY, text.mark);
            }
            int q = text.number(0, quarters - 1);
            int s = text.number(1, STRONG_MOST);
            if (text.isSound() && ovens < homes.length && ovens < strongs.length) {
                homes[ovens] = q;
                strongs[ovens] = s;
                ovens++;
            }
        }

        private void readReed(Text text) {
            if (reeds >= REEDS_MOST) {
                text.accuse(Text.TOO_MANY, text.mark);
            }
            int x = text.number(0, LAST_CELL);
            int y = text.number(0, LAST_CELL);
            if (text.isSound() && y >= 0 && y < reedRows.length) {
                reedRows[y] |= 1 << x;
                reeds++;
            }
        }

        private void readMooring(Text text) {
            if (moorings >= MOORINGS_MOST) {
                text.accuse(Text.TOO_MANY, text.mark);
            }
            int x = text.number(0, LAST_CELL);
            int y = text.number(0, LAST_CELL);
            if (text.isSound() && moorings < mooringXs.length && moorings < mooringYs.length) {
                mooringXs[moorings] = x;
                mooringYs[moorings] = y;
                moorings++;
            }
        }

        int quarterSets() {
            return 1 << quarters;
        }

        int ovenSets() {
            return 1 << ovens;
        }

        int sideOf(int quarter) {
            return entry(sides, quarter);
        }

        int nosesOf(int quarter) {
            return entry(noses, quarter);
        }

        int quarterOf(int oven) {
            return entry(homes, oven);
        }

        int strongOf(int oven) {
            return entry(strongs, oven);
        }

        int mooringX(int mooring) {
            return entry(mooringXs, mooring);
        }

        int mooringY(int mooring) {
            return entry(mooringYs, mooring);
        }

        int ovensIn(int quarter) {
            int bits = 0;
            for (int o = 0; o < ovens; o++) {
                if (quarterOf(o) == quarter) {
                    bits |= 1 << o;
                }
            }
            return bits;
        }

        boolean isMooring(int x, int y) {
            for (int m = 0; m < moorings; m++) {
                if (mooringX(m) == x && mooringY(m) == y) {
                    return true;
                }
            }
            return false;
        }

        int reedRow(int y) {
            return entry(reedRows, y);
        }

        boolean isReed(int x, int y) {
            return (entry(reedRows, y) >> x & 1) == 1;
        }

        boolean isOpen(int x, int y) {
            return x >= 0 && x <= LAST_CELL && y >= 0 && y <= LAST_CELL && (entry(reedRows, y) >> x & 1) == 0;
        }
    }

    /** The LAW, kept as signs of which each takes what it joins from a stack; a draft holds what is being read. */
    private static final class Law {
        private static final String WORDS = "bread noses lit others onions side hour least most ";
        private static final int FACTS = 7;
        private static final int LEAST_WORD = 7;
        private static final int BRACKET = 9;
        private static final int NUMBER_MOST = 999;
        private static final int LEAN_MOST = 99;
        // a sign below this is a number that stands for itself
        private static final int FACT = NUMBER_MOST + 1;
        private static final int JOIN = FACT + FACTS;
        private static final int PLUS = JOIN;
        private static final int MINUS = JOIN + 1;
        private static final int TIMES = JOIN + 2;
        private static final int BY = JOIN + 3;
        private static final int LEFT = JOIN + 4;
        private static final int LEAST = JOIN + 5;
        private static final int MOST = JOIN + 6;

        private final int[] signs = new int[LAW_TEXT_MOST];
        private int length;
        private final int[] draft = new int[LAW_TEXT_MOST];
        private int drafted;
        private final int[] stack = new int[LAW_TEXT_MOST];
        private final int[] facts = new int[FACTS];

        Law() {
            becomeFirst();
        }

        /** bread * noses / 10 - onions */
        private void becomeFirst() {
            drafted = 0;
            put(FACT);
            put(FACT + 1);
            put(TIMES);
            put(10);
            put(BY);
            put(FACT + 4);
            put(MINUS);
            adopt();
        }

        private void put(int sign) {
            if (drafted >= 0 && drafted < draft.length) {
                draft[drafted] = sign;
                drafted++;
            }
        }

        void adopt() {
            copyRow(draft, signs);
            length = drafted;
        }

        void readFrom(Text text) {
            drafted = 0;
            readSum(text, 0);
            text.needEnd();
        }

        private void readSum(Text text, int open) {
            readProduct(text, open);
            for (int i = 0; i < LAW_TEXT_MOST && text.isSound(); i++) {
                int sign = text.takes('+') ? PLUS : text.takes('-') ? MINUS : NONE;
                if (sign == NONE) {
                    return;
                }
                readProduct(text, open);
                put(sign);
            }
        }

        private void readProduct(Text text, int open) {
            readUnit(text, open);
            for (int i = 0; i < LAW_TEXT_MOST && text.isSound(); i++) {
                int sign = text.takes('*') ? TIMES : text.takes('/') ? BY : text.takes('%') ? LEFT : NONE;
                if (sign == NONE) {
                    return;
                }
                readUnit(text, open);
                put(sign);
            }
        }

        private void readUnit(Text text, int open) {
            if (text.nextIsDigit()) {
                put(text.number(0, NUMBER_MOST));
                return;
            }
            int which = text.takes('(') ? BRACKET : text.word(WORDS);
            if (which >= 0 && which < FACTS) {
                put(FACT + which);
                return;
            }
            if (open >= OPEN_MOST) {
                text.accuse(Text.TOO_MANY, text.mark);
            }
            if (!text.isSound()) {
                return;
            }
            if (which == BRACKET) {
                readSum(text, open + 1);
                text.need(')');
            } else {
                readPair(text, open + 1, which == LEAST_WORD ? LEAST : MOST);
            }
        }

        private void readPair(Text text, int open, int sign) {
            text.need('[');
            readSum(text, open);
            text.need(',');
            readSum(text, open);
            text.need(']');
            put(sign);
        }

        int lean(int bread, int noses, int lit, int others, int onions, int side, int hour) {
            facts[0] = bread;
            facts[1] = noses;
            facts[2] = lit;
            facts[3] = others;
            facts[4] = onions;
            facts[5] = side;
            facts[6] = hour;
            int top = 0;
            for (int i = 0; i < length && i < signs.length; i++) {
                int sign = signs[i];
                if (sign < JOIN) {
                    if (top >= 0 && top < stack.length) {
                        stack[top] = sign < FACT ? sign : entry(facts, sign - FACT);
                        top++;
                    }
                } else if (top >= 2 && top <= stack.length) {
                    top--;
                    stack[top - 1] = join(sign, stack[top - 1], stack[top]);
                }
            }
            return Math.max(-LEAN_MOST, Math.min(LEAN_MOST, stack[0]));
        }

        private static int join(int sign, int one, int other) {
            switch (sign) {
                case PLUS: return one + other;
                case MINUS: return one - other;
                case TIMES: return one * other;
                case BY: return other == 0 ? 0 : one / other;
                case LEFT: return other == 0 ? 0 : one % other;
                case LEAST: return one <= other ? one : other;
                default: return one >= other ? one : other;
            }
        }
    }

    /** WORK as it was read: its STEPS in a row, an again with the place behind its last one. */
    private static final class Plan {
        private static final String WORDS = "light quench onions cold hour again ";
        private static final int LIGHT = 0;
        private static final int QUENCH = 1;
        private static final int ONIONS = 2;
        private static final int COLD = 3;
        private static final int HOUR = 4;
        private static final int AGAIN = 5;
        private static final int AGAIN_MOST = 30;
        private static final int BEGUN_MOST = 200;

        private final int[] kinds = new int[WORK_TEXT_MOST];
        private final int[] firsts = new int[WORK_TEXT_MOST];
        private final int[] seconds = new int[WORK_TEXT_MOST];
        int length;
        private int begun;
        int done;
        int refused;

        void readFrom(Text text, Bog bog) {
            length = 0;
            readSteps(text, bog, 0);
        }

        private void readSteps(Text text, Bog bog, int open) {
            for (int i = 0; i < WORK_TEXT_MOST && text.isSound(); i++) {
                boolean over = open == 0 ? !text.goesOn() : text.nextIs(']');
                if (over) {
                    return;
                }
                readStep(text, bog, open);
                text.need(';');
            }
        }

        private void readStep(Text text, Bog bog, int open) {
            int which = text.word(WORDS);
            switch (which) {
                case LIGHT:
                case QUENCH:
                    put(which, text.number(0, bog.ovens - 1), 0);
                    break;
                case ONIONS: put(which, text.number(0, bog.quarters - 1), text.number(0, ONIONS_MOST)); break;
                case COLD: put(which, text.number(0, bog.quarters - 1), 0); break;
                case HOUR: put(which, 0, 0); break;
                case AGAIN: readAgain(text, bog, open); break;
                default: break;
            }
        }

        private void readAgain(Text text, Bog bog, int open) {
            if (open >= OPEN_MOST) {
                text.accuse(Text.TOO_MANY, text.mark);
                return;
            }
            int place = length;
            put(AGAIN, text.number(0, AGAIN_MOST), 0);
            text.need('[');
            readSteps(text, bog, open + 1);
            text.need(']');
            if (place >= 0 && place < seconds.length) {
                seconds[place] = length;
            }
        }

        private void put(int kind, int first, int second) {
            if (length >= 0 && length < kinds.length && length < firsts.length && length < seconds.length) {
                kinds[length] = kind;
                firsts[length] = first;
                seconds[length] = second;
                length++;
            }
        }

        void beginRun() {
            begun = 0;
            done = 0;
            refused = 0;
        }

        void run(City city, int from, int to, int open) {
            int place = from;
            for (int i = 0; i < WORK_TEXT_MOST && place < to && begun < BEGUN_MOST; i++) {
                begun++;
                if (entry(kinds, place) == AGAIN) {
                    int behind = entry(seconds, place);
                    int times = entry(firsts, place);
                    for (int k = 0; k < times && k < AGAIN_MOST && open < OPEN_MOST; k++) {
                        run(city, place + 1, behind, open + 1);
                    }
                    place = behind;
                } else {
                    boolean did = isDone(city, place);
                    done += did ? 1 : 0;
                    refused += did ? 0 : 1;
                    place++;
                }
            }
        }

        private boolean isDone(City city, int place) {
            int first = entry(firsts, place);
            switch (entry(kinds, place)) {
                case LIGHT: return city.lightOven(first);
                case QUENCH: return city.quenchOven(first);
                case ONIONS: return city.layOnions(first, entry(seconds, place));
                case COLD:
                    city.turnCold(first);
                    return true;
                default:
                    if (city.hour >= HOUR_LAST) {
                        return false;
                    }
                    city.passHour();
                    return true;
            }
        }
    }

    /** The BOOK; a draft holds what is being read. */
    private static final class Lines {
        private static final int LINES_MOST = 6;

        private final int[] places = new int[TRACK_HOURS + 1];
        int length;
        private final int[] draft = new int[TRACK_HOURS + 1];
        private int drafted;

        Lines() {
            forget();
        }

        private void forget() {
            beginDraft();
            adopt();
        }

        private void beginDraft() {
            drafted = 0;
            for (int h = 0; h < draft.length; h++) {
                draft[h] = NONE;
            }
        }

        void adopt() {
            copyRow(draft, places);
            length = drafted;
        }

        void readFrom(Text text) {
            beginDraft();
            // one more than there may be, so that it is told as a FAULT
            for (int i = 0; i <= LINES_MOST && text.goesOn(); i++) {
                readLine(text);
                text.need(';');
            }
        }

        private void readLine(Text text) {
            int hour = text.number(1, TRACK_HOURS);
            if (text.isSound() && entry(draft, hour) != NONE) {
                text.accuse(Text.NO_SUCH_NUMBER, text.mark);
            }
            if (drafted >= LINES_MOST) {
                text.accuse(Text.TOO_MANY, text.mark);
            }
            int x = text.number(0, LAST_CELL);
            int y = text.number(0, LAST_CELL);
            if (text.isSound() && hour >= 0 && hour < draft.length) {
                draft[hour] = cellOf(x, y);
                drafted++;
            }
        }

        /** The cell by the line of this hour; NONE without a line. */
        int placeAt(int hour) {
            return entry(places, hour);
        }
    }

    /** All that WORK changes. */
    private static final class City {
        static final int ROW = 6 + 2 * OVENS_MOST + QUARTERS_MOST;
        private static final int PACE_MOST = 3;

        private final Bog bog;
        private final Law law;
        int x;
        int y;
        int hour;
        int flour;
        int aground;
        private int colds;
        private final int[] hoursLeft = new int[OVENS_MOST];
        private final int[] timesLit = new int[OVENS_MOST];
        private final int[] onions = new int[QUARTERS_MOST];
        // what follows is no state: it is reckoned anew before it is read
        private final int[] breads = new int[QUARTERS_MOST];
        private final int[] lits = new int[QUARTERS_MOST];
        private int allBread;
        private final int[] leans = new int[SIDES];
        int east;
        int north;
        int seed;

        City(Bog bog, Law law) {
            this.bog = bog;
            this.law = law;
            beginNight();
        }

        private void beginNight() {
            x = bog.startX;
            y = bog.startY;
            flour = bog.startFlour;
            hour = 0;
            aground = 0;
            colds = 0;
            clearRow(hoursLeft);
            clearRow(timesLit);
            clearRow(onions);
        }

        void become(City other) {
            x = other.x;
            y = other.y;
            hour = other.hour;
            flour = other.flour;
            aground = other.aground;
            colds = other.colds;
            copyRow(other.hoursLeft, hoursLeft);
            copyRow(other.timesLit, timesLit);
            copyRow(other.onions, onions);
        }

        void saveTo(int[] row) {
            if (row.length < ROW) {
                return;
            }
            row[0] = x;
            row[1] = y;
            row[2] = hour;
            row[3] = flour;
            row[4] = aground;
            row[5] = colds;
            System.arraycopy(hoursLeft, 0, row, 6, OVENS_MOST);
            System.arraycopy(timesLit, 0, row, 6 + OVENS_MOST, OVENS_MOST);
            System.arraycopy(onions, 0, row, 6 + 2 * OVENS_MOST, QUARTERS_MOST);
        }

        void loadFrom(int[] row) {
            if (row.length < ROW) {
                return;
            }
            x = row[0];
            y = row[1];
            hour = row[2];
            flour = row[3];
            aground = row[4];
            colds = row[5];
            System.arraycopy(row, 6, hoursLeft, 0, OVENS_MOST);
            System.arraycopy(row, 6 + OVENS_MOST, timesLit, 0, OVENS_MOST);
            System.arraycopy(row, 6 + 2 * OVENS_MOST, onions, 0, QUARTERS_MOST);
        }

        int hoursLeftOf(int oven) {
            return entry(hoursLeft, oven);
        }

        int timesLitOf(int oven) {
            return entry(timesLit, oven);
        }

        int onionsOf(int quarter) {
            return entry(onions, quarter);
        }

        int coldOf(int quarter) {
            return colds >> quarter & 1;
        }

        /** OVENS that are lit yet when so many hours have gone by. */
        int litBits(int hours) {
            int bits = 0;
            for (int o = 0; o < bog.ovens; o++) {
                if (hoursLeftOf(o) > hours) {
                    bits |= 1 << o;
                }
            }
            return bits;
        }

        int coolBits() {
            return bog.ovenSets() - 1 & ~litBits(0);
        }

        boolean lightOven(int oven) {
            if (oven < 0 || oven >= hoursLeft.length || oven >= timesLit.length) {
                return false;
            }
            if (hoursLeft[oven] > 0 || flour <= 0) {
                return false;
            }
            hoursLeft[oven] = LIT_HOURS;
            timesLit[oven]++;
            flour--;
            return true;
        }

        boolean quenchOven(int oven) {
            if (oven < 0 || oven >= hoursLeft.length || hoursLeft[oven] <= 0) {
                return false;
            }
            hoursLeft[oven] = 0;
            return true;
        }

        boolean layOnions(int quarter, int n) {
            if (onionsOf(quarter) == n) {
                return false;
            }
            putOnions(quarter, n);
            return true;
        }

        void putOnions(int quarter, int n) {
            if (quarter >= 0 && quarter < onions.length) {
                onions[quarter] = n;
            }
        }

        void turnCold(int quarter) {
            colds ^= 1 << quarter;
        }

        void passHour() {
            reckon(litBits(0), hour);
            move();
            for (int o = 0; o < hoursLeft.length; o++) {
                if (hoursLeft[o] > 0) {
                    hoursLeft[o]--;
                }
            }
            hour++;
        }

        /** What each QUARTER smells, were just these OVENS lit: breadOf and leanOf answer by it. */
        void smell(int lit) {
            clearRow(breads);
            clearRow(lits);
            allBread = 0;
            for (int o = 0; o < bog.ovens; o++) {
                int quarter = bog.quarterOf(o);
                if ((lit >> o & 1) == 1 && quarter >= 0 && quarter < breads.length && quarter < lits.length) {
                    breads[quarter] += bog.strongOf(o);
                    lits[quarter]++;
                    allBread += bog.strongOf(o);
                }
            }
        }

        int breadOf(int quarter) {
            return entry(breads, quarter);
        }

        int leanOf(int quarter, int atHour) {
            int bread = breadOf(quarter);
            int noses = bog.nosesOf(quarter);
            if (coldOf(quarter) == 1) {
                noses = noses / 2;
            }
            return law.lean(bread, noses, entry(lits, quarter), allBread - bread, onionsOf(quarter),
                    bog.sideOf(quarter), atHour);
        }

        /** DRIFT, were just these OVENS lit in that hour. */
        void reckon(int lit, int atHour) {
            smell(lit);
            clearRow(leans);
            for (int q = 0; q < bog.quarters; q++) {
                int d = bog.sideOf(q);
                if (d >= 0 && d < leans.length) {
                    leans[d] += leanOf(q, atHour);
                }
            }
            east = pace(leansTo(EAST) - leansTo(WEST));
            north = pace(leansTo(NORTH) - leansTo(SOUTH));
        }

        int leansTo(int d) {
            return entry(leans, d);
        }

        private static int pace(int lean) {
            return Math.max(-PACE_MOST, Math.min(PACE_MOST, lean / 10));
        }

        void move() {
            go(east < 0 ? -1 : 1, 0, Math.abs(east));
            go(0, north < 0 ? -1 : 1, Math.abs(north));
        }

        private void go(int wayX, int wayY, int cells) {
            for (int i = 0; i < cells; i++) {
                if (!bog.isOpen(x + wayX, y + wayY)) {
                    aground++;
                    return;
                }
                x += wayX;
                y += wayY;
            }
        }

        /** What a SEASON draws ahead of an hour. */
        void chance(int c) {
            if (bog.ovens <= 0) {
                return;
            }
            lightOven(draw(bog.ovens));
            int quarter = draw(bog.quarters);
            if (draw(SIXTEEN) < c) {
                turnCold(quarter);
            }
        }

        private int draw(int many) {
            seed = seed * 1103515245 + 12345;
            return many <= 0 ? 0 : (seed >> 16 & 32767) % many;
        }
    }

    /** WORKS that can be undone, and IMAGES: rows of what the city was. */
    private static final class Past {
        private final int[][] workRows = new int[WORKS_MOST][City.ROW];
        int works;
        private final int[][] imageRows = new int[IMAGES_MOST][City.ROW];
        private final int[][] imageWorkRows = new int[IMAGES_MOST * WORKS_MOST][City.ROW];
        private final int[] imageWorks = new int[IMAGES_MOST];
        int images;

        void forget() {
            works = 0;
            images = 0;
        }

        void keepWork(City city) {
            if (works >= 0 && works < workRows.length) {
                city.saveTo(workRows[works]);
                works++;
            }
        }

        void undoWork(City city) {
            if (works > 0 && works <= workRows.length) {
                works--;
                city.loadFrom(workRows[works]);
            }
        }

        void keepImage(City city) {
            if (images < 0 || images >= imageRows.length || images >= imageWorks.length) {
                return;
            }
            city.saveTo(imageRows[images]);
            imageWorks[images] = works;
            copyRows(workRows, 0, imageWorkRows, images * WORKS_MOST);
            images++;
        }

        void restoreImage(City city) {
            if (images <= 0 || images > imageRows.length || images > imageWorks.length) {
                return;
            }
            images--;
            city.loadFrom(imageRows[images]);
            works = imageWorks[images];
            copyRows(imageWorkRows, images * WORKS_MOST, workRows, 0);
        }

        private static void copyRows(int[][] from, int fromRow, int[][] to, int toRow) {
            for (int i = 0; i < WORKS_MOST; i++) {
                int source = fromRow + i;
                int target = toRow + i;
                if (source >= 0 && source < from.length && target >= 0 && target < to.length) {
                    copyRow(from[source], to[target]);
                }
            }
        }
    }

    /** Where the city would lie in each of the next hours, for each set of OVENS that could be lit now. */
    private static final class Tracks {
        private final Bog bog;
        private final Lines lines;
        private final City city;
        private final City trial;
        private final int[][] cells = new int[TRACK_HOURS + 1][1 << OVENS_MOST];
        private final boolean[] fits = new boolean[1 << OVENS_MOST];
        private final int[] crowds = new int[(LAST_CELL + 1) * (LAST_CELL + 1)];
        // the tracks stay right until the BOG, the LAW or the city changes
        private boolean known;
        private int cool;
        int fitting;
        int firstFit;
        int sure;
        int lookHour;
        int lookWorst;

        Tracks(Bog bog, Lines lines, City city, City trial) {
            this.bog = bog;
            this.lines = lines;
            this.city = city;
            this.trial = trial;
        }

        void forget() {
            known = false;
        }

        void reckonAll() {
            if (known) {
                return;
            }
            known = true;
            cool = city.coolBits();
            trial.become(city);
            for (int set = 0; set < bog.ovenSets(); set++) {
                put(0, set, cellOf(city.x, city.y));
            }
            for (int h = 0; h < TRACK_HOURS; h++) {
                reckonHour(h);
            }
        }

        private void reckonHour(int h) {
            int stillLit = city.litBits(h);
            int lit = NONE;
            for (int set = 0; set < bog.ovenSets(); set++) {
                if (!isOffered(set)) {
                    continue;
                }
                int litNow = stillLit | (h < LIT_HOURS ? set : 0);
                if (litNow != lit) {
                    lit = litNow;
                    trial.reckon(lit, city.hour + h);
                }
                int cell = cellAt(h, set);
                trial.x = cell / (LAST_CELL + 1);
                trial.y = cell % (LAST_CELL + 1);
                trial.move();
                put(h + 1, set, cellOf(trial.x, trial.y));
            }
        }

        private boolean isOffered(int set) {
            return (set & ~cool) == 0 && Integer.bitCount(set) <= city.flour;
        }

        private void put(int h, int set, int cell) {
            if (h >= 0 && h < cells.length && set >= 0 && set < cells[h].length) {
                cells[h][set] = cell;
            }
        }

        private int cellAt(int h, int set) {
            return h >= 0 && h < cells.length ? entry(cells[h], set) : 0;
        }

        int fewestTo(int x, int y, int h) {
            int best = NONE;
            for (int set = 0; set < bog.ovenSets(); set++) {
                if (isOffered(set) && cellAt(h, set) == cellOf(x, y)
                        && (best == NONE || Integer.bitCount(set) < Integer.bitCount(best))) {
                    best = set;
                }
            }
            return best;
        }

        void reckonFits() {
            fitting = 0;
            firstFit = NONE;
            sure = 0;
            for (int set = 0; set < bog.ovenSets() && set < fits.length; set++) {
                fits[set] = isFit(set);
                if (fits[set]) {
                    sure = fitting == 0 ? set : sure & set;
                    firstFit = fitting == 0 ? set : firstFit;
                    fitting++;
                }
            }
        }

        private boolean isFit(int set) {
            if (!isOffered(set)) {
                return false;
            }
            for (int h = 1; h <= TRACK_HOURS; h++) {
                int told = lines.placeAt(h);
                if (told != NONE && told != cellAt(h, set)) {
                    return false;
                }
            }
            return true;
        }

        /** Behind reckonFits alone. */
        void reckonLook() {
            lookHour = NONE;
            lookWorst = NONE;
            for (int h = 1; h <= TRACK_HOURS; h++) {
                if (lines.placeAt(h) == NONE) {
                    int worst = worstAt(h);
                    if (lookHour == NONE || worst < lookWorst) {
                        lookHour = h;
                        lookWorst = worst;
                    }
                }
            }
        }

        private int worstAt(int h) {
            clearRow(crowds);
            int worst = 0;
            for (int set = 0; set < bog.ovenSets() && set < fits.length; set++) {
                int cell = cellAt(h, set);
                if (fits[set] && cell >= 0 && cell < crowds.length) {
                    crowds[cell]++;
                    worst = Math.max(worst, crowds[cell]);
                }
            }
            return worst;
        }
    }

    /** How far water spreads among the reeds, a row of bits for each Y. */
    private static final class Reach {
        // a bit for each X of the bog; what is spread beyond the last one is cut off
        private static final int WHOLE_ROW = 0x7fffffff;

        private final Bog bog;
        private final int[] wet = new int[LAST_CELL + 1];
        private final int[] before = new int[LAST_CELL + 1];

        Reach(Bog bog) {
            this.bog = bog;
        }

        int fewestCells(int fromX, int fromY, int toX, int toY) {
            clearRow(wet);
            if (fromY >= 0 && fromY < wet.length) {
                wet[fromY] = 1 << fromX;
            }
            int cells = wet.length * wet.length;
            for (int far = 0; far < cells; far++) {
                if ((entry(wet, toY) >> toX & 1) == 1) {
                    return far;
                }
                if (!spreads()) {
                    return NONE;
                }
            }
            return NONE;
        }

        private boolean spreads() {
            copyRow(wet, before);
            boolean grew = false;
            for (int y = 0; y < wet.length; y++) {
                int row = entry(before, y);
                int beside = row << 1 | row >> 1 | entry(before, y - 1) | entry(before, y + 1);
                wet[y] = row | beside & ~bog.reedRow(y) & WHOLE_ROW;
                grew = grew || wet[y] != row;
            }
            return grew;
        }
    }

    private static int cellOf(int x, int y) {
        return x * (LAST_CELL + 1) + y;
    }

    /** 0 where the row has no such place. */
    private static int entry(int[] row, int place) {
        return place >= 0 && place < row.length ? row[place] : 0;
    }

    private static void clearRow(int[] row) {
        for (int i = 0; i < row.length; i++) {
            row[i] = 0;
        }
    }

    private static void copyRow(int[] from, int[] to) {
        System.arraycopy(from, 0, to, 0, Math.min(from.length, to.length));
    }
}
