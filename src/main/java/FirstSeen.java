import java.util.Arrays;

/**
 * What one sees first: a town of beds, things and sleepers, by the numbered promises of the
 * project's document. This class looks at what a call is given and answers its refusals; the
 * classes inside it hold the town, look around in it and read the rules.
 */
public final class FirstSeen {
    public static final int NONE = -1, BAD = -2, STATE = -3, FULL = -4;
    public static final long NO = -4611686018427387904L;

    // What the host refuses by, and the two bases that lie below every true answer.
    private static final int NOTHING = -11, OUTSIDE = -12, UNLIKE = -13, NEGATIVE = -14;
    private static final int NO_SUCH = -100000, FAULTY = -100;

    private static final int SIDE = 6, CELLS = 36, WAYS = 4, MINUTES = 24;
    private static final int TALLEST = 9, THICKEST = 9;
    private static final int KINDS = 6, MOST_THINGS = 6, MOST_SLEEPERS = 5;
    private static final int TAPE = 160, MOST_TEXTS = 6, MOST_DIGITS = 4, MOST_OPEN = 5;
    private static final int SHEETS = 4, MOST_ITEMS = 40, MOST_PAIRS = 20, MOST_SEEDS = 20;

    // The rows of a town, numbered as told() numbers them, and the most that each may hold.
    private static final int HOME = 0, PRICE = 1, NUMBER = 2, KIND = 3;
    private static final int CELL = 4, WAY = 5, WAKES = 6, AGE = 7;
    private static final int[] MOST = {35, 99, 9, 5, 35, 3, 23, 99};

    private static final int[] DOWN = {-1, 0, 1, 0};
    private static final int[] ACROSS = {0, 1, 0, -1};

    private static final int BYTES = 0, SHORTS = 1, INTS = 2, MISSING = -1;

    // What BEST may change.
    private static final int BY_MINUTE = 0, BY_WAY = 1, BY_BOTH = 2;

    private static final String FIRST_TEXT = "sees 1 ; worth 0 ; sleep 23 - minute ;";

    // The parts of a text; its words, each with a blank behind it: the names in the order of
    // their places, then the keys in the order of their tokens.
    private static final int SEES_PART = 0, WORTH_PART = 1, SLEEP_PART = 2;
    private static final int NAMES = 6;
    private static final String WORDS =
            "far minute fog high one thing sees worth sleep or and not ";
    private static final int FAR_NAME = 0, MINUTE_NAME = 1, FOG_NAME = 2;
    private static final int HIGH_NAME = 3, ONE_NAME = 4, THING_NAME = 5;

    // A step of a text's code: 0 and more is a number itself, -1 .. -6 a name, below that a deed.
    private static final int DO_OR = -7, DO_AND = -8, DO_NOT = -9, DO_LESS = -10, DO_EQUAL = -11;
    private static final int DO_ADD = -12, DO_TAKE = -13, DO_TIMES = -14, DO_NEGATE = -15;

    // The tokens that are no signs; a sign is its own token, and all signs are above these.
    private static final int T_END = 0, T_WRONG = 1, T_NUMBER = 2, T_NAME = 3, T_SEES = 4;
    private static final int T_WORTH = 5, T_SLEEP = 6, T_OR = 7, T_AND = 8, T_NOT = 9;

    // Five operators wait at most in each of six nested levels; the rest is room to spare.
    private static final int STACK = 40;

    private final Town town;
    private final Town image;
    private boolean imageKept;
    private final Thing[] kinds;
    private final Reader reader;
    private final Text[] texts;
    private int textCount;
    private final Morning morning;
    private final Sheet[] sheets;

    private int bestMinute;
    private int bestWay;
    private int bestLeft;

    public FirstSeen() {
        town = new Town();
        image = new Town();
        kinds = new Thing[] {
            new Thing(), new Walking(), new Picture(), new Bull(), new Framed(), new Hill()
        };
        reader = new Reader();
        for (int i = 0; i < FIRST_TEXT.length(); i++) {
            reader.put(FIRST_TEXT.charAt(i));
        }
        texts = new Text[MOST_TEXTS];
        texts[0] = reader.read();
        reader.size = 0;
        textCount = 1;
        morning = new Morning(town, kinds, texts);
        sheets = new Sheet[SHEETS];
        for (int i = 0; i < SHEETS; i++) {
            sheets[i] = new Sheet();
        }
    }

    // ---- the town, things, sleepers

    public int town(int what, int of, int v) {
        if (what == 0 && isWithin(of, CELLS) && isWithin(v, TALLEST + 1)) {
            int was = town.heights[of];
            town.heights[of] = v;
            return was;
        }
        if (what == 1 && isWithin(v, THICKEST + 1)) {
            int was = town.fog;
            town.fog = v;
            return was;
        }
        return BAD;
    }

    public int high(int cell) {
        return isWithin(cell, CELLS) ? town.heights[cell] : BAD;
    }

    public int thing(int kind, int home, int what) {
        if (!fits(KIND, kind) || !fits(HOME, home) || what < 0 || !fits(PRICE, what / 10)) {
            return BAD;
        }
        if (town.things >= MOST_THINGS) {
            return FULL;
        }
        int made = town.things;
        town.kinds[made] = kind;
        town.homes[made] = home;
        town.prices[made] = what / 10;
        town.numbers[made] = what % 10;
        town.things = made + 1;
        return made;
    }

    public int sleeper(int cell, int what, int age) {
        if (!fits(CELL, cell) || what < 0 || !fits(WAKES, what / 10) || !fits(WAY, what % 10)
                || !fits(AGE, age)) {
            return BAD;
        }
        if (town.sleepers >= MOST_SLEEPERS) {
            return FULL;
        }
        int made = town.sleepers;
        town.cells[made] = cell;
        town.wakes[made] = what / 10;
        town.ways[made] = what % 10;
        town.ages[made] = age;
        town.sleepers = made + 1;
        return made;
    }

    public int set(int what, int of, int v) {
        if (what < 0 || what > 5) {
            return BAD;
        }
        // A thing's kind lies between the rows that may be set and never changes.
        int row = what < KIND ? what : what + 1;
        if (!town.owns(row, of) || !fits(row, v)) {
            return BAD;
        }
        int[] numbers = town.row(row);
        int was = numbers[of];
        numbers[of] = v;
        return was;
    }

    public int told(int of, int what) {
        if (what < HOME || what > AGE || !town.owns(what, of)) {
            return BAD;
        }
        return town.row(what)[of];
    }

    public int where(int thing, int minute) {
        if (!isThing(thing) || !isWithin(minute, MINUTES)) {
            return BAD;
        }
        return kindOf(thing).cellIn(minute, town.homes[thing], town.numbers[thing]);
    }

    // ---- texts

    public int feed(int letter) {
        if (letter < 0 || letter > 255) {
            return BAD;
        }
        return reader.put(letter) ? reader.size : FULL;
    }

    public int text() {
        if (textCount >= MOST_TEXTS) {
            return FULL;
        }
        Text read = reader.read();
        reader.size = 0;
        if (read == null) {
            return FAULTY - reader.at;
        }
        int made = textCount;
        texts[made] = read;
        textCount = made + 1;
        return made;
    }

    public int force(int text) {
        if (!isWithin(text, textCount)) {
            return BAD;
        }
        int was = town.rule;
        town.rule = text;
        return was;
    }

    // ---- mornings

    public int seen(int sleeper, int i) {
        if (!isSleeper(sleeper) || !isWithin(i, MOST_THINGS)) {
            return BAD;
        }
        morning.look(sleeper);
        return morning.seenBy(sleeper, i);
    }

    public int has(int sleeper) {
        if (!isSleeper(sleeper)) {
            return BAD;
        }
        morning.dawn();
        return morning.had[sleeper];
    }

    public int whose(int thing) {
        if (!isThing(thing)) {
            return BAD;
        }
        morning.dawn();
        for (int s = 0; s < town.sleepers; s++) {
            if (morning.had[s] == thing) {
                return s;
            }
        }
        return NONE;
    }

    public int left(int sleeper) {
        if (sleeper != NONE && !isSleeper(sleeper)) {
            return NO_SUCH;
        }
        morning.dawn();
        return sleeper == NONE ? morning.leftOfAll() : morning.leftOf(sleeper);
    }

    // ---- what would be better

    public int best(int sleeper, int sort, int what) {
        if (!isSleeper(sleeper) || !isWithin(sort, BY_BOTH + 1) || !isWithin(what, 3)) {
            return NO_SUCH;
        }
        findBest(sleeper, sort);
        if (what == 0) {
            return bestMinute;
        }
        return what == 1 ? bestWay : bestLeft;
    }

    public int turn(int sleeper) {
        if (!isSleeper(sleeper)) {
            return NO_SUCH;
        }
        findBest(sleeper, BY_BOTH);
        town.wakes[sleeper] = bestMinute;
        town.ways[sleeper] = bestWay;
        return bestLeft;
    }

    public int rest() {
        for (int s = 0; s < town.sleepers; s++) {
            morning.dawn();
            int now = morning.leftOf(s);
            findBest(s, BY_BOTH);
            if (bestLeft > now) {
                return 0;
            }
        }
        return 1;
    }

    public int beds(int what) {
        if (what != 0 && what != 1) {
            return NO_SUCH;
        }
        morning.standBeds();
        return what == 0 ? morning.bedsLeft : morning.bedsDigits;
    }

    public int wall(int sleeper, int other) {
        if (!isSleeper(sleeper) || !isSleeper(other) || sleeper == other) {
            return BAD;
        }
        morning.dawn();
        int own = morning.leftOf(sleeper);
        int least = morning.leftOf(other);
        int found = NONE;
        for (int c = 0; c < CELLS; c++) {
            dawnWithHeight(c, TALLEST);
            if (morning.leftOf(sleeper) >= own && morning.leftOf(other) < least) {
                least = morning.leftOf(other);
                found = c;
            }
        }
        return found;
    }

    public int fell(int sleeper) {
        if (!isSleeper(sleeper)) {
            return BAD;
        }
        morning.dawn();
        int most = morning.leftOf(sleeper);
        int found = NONE;
        for (int c = 0; c < CELLS; c++) {
            dawnWithHeight(c, 0);
            if (morning.leftOf(sleeper) > most) {
                most = morning.leftOf(sleeper);
                found = c;
            }
        }
        return found;
    }

    public int turned(int sheet, int what) {
        if (!isSheet(sheet) || !isWithin(what, 2)) {
            return BAD;
        }
        int refusal = refusalOfTale(sheet);
        if (refusal != 0) {
            return refusal;
        }
        int many = 0;
        int first = NONE;
        morning.lookAll();
        for (int s = 0; s < town.sleepers; s++) {
            for (int w = 0; w < WAYS; w++) {
                if (w != town.ways[s] && isTold(sheet, s, town.wakes[s], w)) {
                    many++;
                    first = first == NONE ? 10 * s + w : first;
                }
            }
        }
        return what == 0 ? many : first;
    }

    public int woke(int sheet, int sleeper) {
        if (!isSheet(sheet) || !isSleeper(sleeper)) {
            return BAD;
        }
        int refusal = refusalOfTale(sheet);
        if (refusal != 0) {
            return refusal;
        }
        int minutes = 0;
        morning.lookAll();
        for (int m = 0; m < MINUTES; m++) {
            if (isTold(sheet, sleeper, m, town.ways[sleeper])) {
                minutes |= 1 << m;
            }
        }
        return minutes;
    }

    public int judge(int sheet) {
        if (!isSheet(sheet)) {
            return BAD;
        }
        int refusal = refusalOfTale(sheet);
        if (refusal != 0) {
            return refusal;
        }
        morning.dawn();
        return firstOtherwise(sheets[sheet]);
    }

    public int drawn(int seed) {
        int fog = town.fog;
        town.fog = fogOf(seed);
        morning.dawn();
        int all = morning.leftOfAll();
        town.fog = fog;
        return all;
    }

    public long chance(int seed, int n, int sleeper, int part) {
        if (n < 1 || n > MOST_SEEDS || !isSleeper(sleeper) || !isWithin(part, 2)) {
            return NO;
        }
        int fog = town.fog;
        int hits = 0;
        for (int i = 0; i < n; i++) {
            town.fog = fogOf(seed + i);
            morning.dawn();
            if (morning.had[sleeper] != NONE) {
                hits++;
            }
        }
        town.fog = fog;
        int shared = commonDivisor(hits, n);
        return part == 0 ? hits / shared : n / shared;
    }

    public int image() {
        image.become(town);
        imageKept = true;
        return town.sleepers;
    }

    public int back() {
        if (!imageKept) {
            return STATE;
        }
        town.become(image);
        return town.sleepers;
    }

    public int count(int what) {
        switch (what) {
            case 0: return town.sleepers;
            case 1: return town.things;
            case 2: return town.cellsAboveGround();
            case 3: return town.fog;
            case 4: return textCount;
            case 5: return reader.size;
            case 6: return town.rule;
            default: return BAD;
        }
    }

    // ---- the host

    public int sheet(int sheet, int sort, int n) {
        if (!isSheet(sheet) || sort < MISSING || sort > INTS) {
            return BAD;
        }
        if (sort != MISSING && n > MOST_ITEMS) {
            return BAD;
        }
        if (sort != MISSING && n < 0) {
            return NEGATIVE;
        }
        sheets[sheet].become(sort, sort == MISSING ? 0 : n);
        return 1;
    }

    public int cell(int sheet, int i, int v) {
        if (!isSheet(sheet)) {
            return BAD;
        }
        Sheet row = sheets[sheet];
        if (row.sort == MISSING) {
            return NOTHING;
        }
        if (!isWithin(i, row.size)) {
            return OUTSIDE;
        }
        row.put(i, v);
        return 1;
    }

    public int copy(int sheet, int i, int other, int j, int n) {
        if (!isSheet(sheet) || !isSheet(other)) {
            return BAD;
        }
        Sheet from = sheets[sheet];
        Sheet to = sheets[other];
        if (from.sort == MISSING || to.sort == MISSING) {
            return NOTHING;
        }
        if (from.sort != to.sort) {
            return UNLIKE;
        }
        if (!from.holds(i, n) || !to.holds(j, n)) {
            return OUTSIDE;
        }
        System.arraycopy(from.items, i, to.items, j, n);
        return n;
    }

    public int heights(int sheet, int sort, int from, int n) {
        if (!isSheet(sheet) || !isWithin(sort, INTS + 1) || !isWithin(n, MOST_PAIRS + 1)) {
            return BAD;
        }
        Sheet row = sheets[sheet];
        // The document names -13 ahead of -11, and what is missing is of no other sort.
        if (row.sort != MISSING && row.sort != sort) {
            return UNLIKE;
        }
        if (row.sort == MISSING) {
            return NOTHING;
        }
        int became = 0;
        for (int k = 0; k < n; k++) {
            int i = from + 2 * k;
            if (!row.holds(i, 2)) {
                return OUTSIDE;
            }
            if (isWithin(row.items[i], CELLS) && isWithin(row.items[i + 1], TALLEST + 1)) {
                town.heights[row.items[i]] = row.items[i + 1];
                became++;
            }
        }
        return became;
    }

    public int taken(int thing, int k) {
        if (!isWithin(k, KINDS)) {
            return BAD;
        }
        if (!isThing(thing)) {
            return NOTHING;
        }
        return isUnder(kindOf(thing), k) ? town.numbers[thing] : UNLIKE;
    }

    // ---- what the calls share

    private static boolean isWithin(int v, int bound) {
        return v >= 0 && v < bound;
    }

    private static boolean fits(int row, int v) {
        return v >= 0 && v <= MOST[row];
    }

    private boolean isThing(int v) {
        return isWithin(v, town.things);
    }

    private boolean isSleeper(int v) {
        return isWithin(v, town.sleepers);
    }

    private static boolean isSheet(int v) {
        return isWithin(v, SHEETS);
    }

    private Thing kindOf(int thing) {
        return kinds[town.kinds[thing]];
    }

    private static boolean isUnder(Thing one, int kind) {
        switch (kind) {
            case 1: return one instanceof Walking;
            case 2: return one instanceof Picture;
            case 3: return one instanceof Bull;
            case 4: return one instanceof Framed;
            case 5: return one instanceof Hill;
            default: return true;
        }
    }

    private static int fogOf(int seed) {
        int z = seed * 1103515245 + 12345;
        return (z >>> 10) % 10;
    }

    /** The greatest number that divides both; n is 1 at least, and itself divides 0 too. */
    private static int commonDivisor(int hits, int n) {
        for (int d = n; d > 1; d--) {
            if (hits % d == 0 && n % d == 0) {
                return d;
            }
        }
        return 1;
    }

    private void findBest(int sleeper, int sort) {
        int wakes = town.wakes[sleeper];
        int way = town.ways[sleeper];
        int firstMinute = sort == BY_WAY ? wakes : 0;
        int lastMinute = sort == BY_WAY ? wakes : MINUTES - 1;
        int firstWay = sort == BY_MINUTE ? way : 0;
        int lastWay = sort == BY_MINUTE ? way : WAYS - 1;
        bestLeft = NO_SUCH;
        morning.lookAll();
        for (int m = firstMinute; m <= lastMinute; m++) {
            for (int w = firstWay; w <= lastWay; w++) {
                tryBest(sleeper, m, w);
            }
        }
        town.wakes[sleeper] = wakes;
        town.ways[sleeper] = way;
    }

    private void tryBest(int sleeper, int minute, int way) {
        town.wakes[sleeper] = minute;
        town.ways[sleeper] = way;
        morning.look(sleeper);
        morning.deal();
        int would = morning.leftOf(sleeper);
        if (would > bestLeft) {
            bestLeft = would;
            bestMinute = minute;
            bestWay = way;
        }
    }

    /** What a sleeper has left after this stays so, though the cell is as before again. */
    private void dawnWithHeight(int cell, int height) {
        int was = town.heights[cell];
        town.heights[cell] = height;
        morning.dawn();
        town.heights[cell] = was;
    }

    /** 0, if a sheet tells of as many as there are. */
    private int refusalOfTale(int sheet) {
        if (sheets[sheet].sort == MISSING) {
            return NOTHING;
        }
        return sheets[sheet].size == town.sleepers ? 0 : BAD;
    }

    private int firstOtherwise(Sheet tale) {
        for (int s = 0; s < town.sleepers && s < tale.size; s++) {
            if (tale.items[s] != morning.had[s]) {
                return s;
            }
        }
        return NONE;
    }

    /** All others must have looked before: only the one that wakes otherwise looks anew. */
    private boolean isTold(int sheet, int sleeper, int minute, int way) {
        int wasMinute = town.wakes[sleeper];
        int wasWay = town.ways[sleeper];
        town.wakes[sleeper] = minute;
        town.ways[sleeper] = way;
        morning.look(sleeper);
        morning.deal();
        town.wakes[sleeper] = wasMinute;
        town.ways[sleeper] = wasWay;
        return firstOtherwise(sheets[sheet]) == NONE;
    }

    /** A town's numbers and nothing else, so that an image can be just another town. */
    private static final class Town {
        final int[] heights = new int[CELLS];
        int fog;
        int rule;
        int things;
        final int[] homes = new int[MOST_THINGS];
        final int[] prices = new int[MOST_THINGS];
        final int[] numbers = new int[MOST_THINGS];
        final int[] kinds = new int[MOST_THINGS];
        int sleepers;
        final int[] cells = new int[MOST_SLEEPERS];
        final int[] ways = new int[MOST_SLEEPERS];
        final int[] wakes = new int[MOST_SLEEPERS];
        final int[] ages = new int[MOST_SLEEPERS];

        int[] row(int what) {
            switch (what) {
                case HOME: return homes;
                case PRICE: return prices;
                case NUMBER: return numbers;
                case KIND: return kinds;
                case CELL: return cells;
                case WAY: return ways;
                case WAKES: return wakes;
                default: return ages;
            }
        }

        boolean owns(int row, int of) {
            return isWithin(of, row <= KIND ? things : sleepers);
        }

        int cellsAboveGround() {
            int many = 0;
            for (int c = 0; c < CELLS; c++) {
                many += heights[c] > 0 ? 1 : 0;
            }
            return many;
        }

        void become(Town other) {
            System.arraycopy(other.heights, 0, heights, 0, CELLS);
            fog = other.fog;
            rule = other.rule;
            things = other.things;
            sleepers = other.sleepers;
            for (int what = HOME; what <= AGE; what++) {
                int[] to = row(what);
                System.arraycopy(other.row(what), 0, to, 0, to.length);
            }
        }
    }

    /** How a kind of things behaves; each kind below says only what it does otherwise. */
    private static class Thing {
        int cellIn(int minute, int home, int number) {
            return home;
        }

        boolean shows(int far, int number, int fog) {
            return far <= THICKEST - fog;
        }

        int worth(int v, int far, int number) {
            return v;
        }
    }

    private static class Walking extends Thing {
        int cellIn(int minute, int home, int number) {
            int x = (home % SIDE + minute / (number + 1)) % SIDE;
            return home - home % SIDE + x;
        }

        int worth(int v, int far, int number) {
            return super.worth(v, far, number) + far;
        }
    }

    private static class Picture extends Thing {
        boolean shows(int far, int number, int fog) {
            return far == 1;
        }

        int worth(int v, int far, int number) {
            return v / 2;
        }
    }

    private static final class Bull extends Walking {
        int cellIn(int minute, int home, int number) {
            return minute % 2 == 1 ? home : super.cellIn(minute, home, number);
        }

        boolean shows(int far, int number, int fog) {
            return far != 1 && super.shows(far, number, fog);
        }

        int worth(int v, int far, int number) {
            return 2 * super.worth(v, far, number);
        }
    }

    private static final class Framed extends Picture {
        boolean shows(int far, int number, int fog) {
            return far == number || super.shows(far, number, fog);
        }

        int worth(int v, int far, int number) {
            return super.worth(v, far, number) + number;
        }
    }

    private static final class Hill extends Thing {
        boolean shows(int far, int number, int fog) {
            return fog < THICKEST;
        }

        int worth(int v, int far, int number) {
            return super.worth(v, far, number) - far;
        }
    }

    /** Who sees what, and who has it, in the town as its numbers stand when one looks. */
    private static final class Morning {
        private final Town town;
        private final Thing[] kinds;
        private final Text[] texts;
        private final int[] names = new int[NAMES];
        private final int[] places = new int[MOST_THINGS];
        private final int[] view = new int[SIDE];
        // One list for each way of each bed, so that all ways can be compared at once.
        private final int[] seenCount = new int[MOST_SLEEPERS * WAYS];
        private final int[] seenThing = new int[MOST_SLEEPERS * WAYS * MOST_THINGS];
        private final int[] seenWorth = new int[MOST_SLEEPERS * WAYS * MOST_THINGS];
        private final int[] order = new int[MOST_SLEEPERS];
        final int[] had = new int[MOST_SLEEPERS];
        private final int[] hadWorth = new int[MOST_SLEEPERS];
        int bedsLeft;
        int bedsDigits;

        Morning(Town town, Thing[] kinds, Text[] texts) {
            this.town = town;
            this.kinds = kinds;
            this.texts = texts;
        }

        // Its loop is that of lookAll once more: calls from the face down stay eight deep.
        void dawn() {
            for (int s = 0; s < town.sleepers; s++) {
                look(s);
            }
            deal();
        }

        void lookAll() {
            for (int s = 0; s < town.sleepers; s++) {
                look(s);
            }
        }

        /** Fills the list of the way in which the sleeper's bed stands. */
        void look(int sleeper) {
            int list = sleeper * WAYS + town.ways[sleeper];
            int many = 0;
            placeThings(town.wakes[sleeper]);
            findView(sleeper);
            for (int far = 1; far < SIDE; far++) {
                for (int t = 0; t < town.things; t++) {
                    if (places[t] == view[far] && sees(sleeper, t, far)) {
                        seenThing[list * MOST_THINGS + many] = t;
                        seenWorth[list * MOST_THINGS + many] = worthOf(t, far);
                        many++;
                    }
                }
            }
            seenCount[list] = many;
        }

        private void placeThings(int minute) {
            for (int t = 0; t < town.things; t++) {
                Thing kind = kinds[town.kinds[t]];
                places[t] = kind.cellIn(minute, town.homes[t], town.numbers[t]);
            }
        }

        /** Which cell one sees into, so far away; NONE, where it is hidden or the town ends. */
        private void findView(int sleeper) {
            int way = town.ways[sleeper];
            int y = town.cells[sleeper] / SIDE;
            int x = town.cells[sleeper] % SIDE;
            int bed = town.heights[town.cells[sleeper]];
            int tallestBetween = NONE;
            for (int far = 1; far < SIDE; far++) {
                y += DOWN[way];
                x += ACROSS[way];
                view[far] = NONE;
                if (isWithin(y, SIDE) && isWithin(x, SIDE)) {
                    int cell = SIDE * y + x;
                    int height = town.heights[cell];
                    if (tallestBetween <= bed || height > tallestBetween) {
                        view[far] = cell;
                    }
                    tallestBetween = Math.max(tallestBetween, height);
                }
            }
        }

        private boolean sees(int sleeper, int thing, int far) {
            Thing kind = kinds[town.kinds[thing]];
            if (!kind.shows(far, town.numbers[thing], town.fog)) {
                return false;
            }
            names[FAR_NAME] = far;
            names[MINUTE_NAME] = town.wakes[sleeper];
            names[FOG_NAME] = town.fog;
            names[HIGH_NAME] = town.heights[places[thing]];
            names[ONE_NAME] = sleeper;
            names[THING_NAME] = thing;
            return ruled(SEES_PART) != 0;
        }

        /** The names must still stand for the thing that was seen last. */
        private int worthOf(int thing, int far) {
            int told = town.prices[thing] + clamped(ruled(WORTH_PART), -99, 99);
            Thing kind = kinds[town.kinds[thing]];
            return Math.max(0, kind.worth(told, far, town.numbers[thing]));
        }

        private int sleepOf(int sleeper) {
            Arrays.fill(names, 0);
            names[MINUTE_NAME] = town.wakes[sleeper];
            names[ONE_NAME] = sleeper;
            return clamped(ruled(SLEEP_PART), 0, 99);
        }

        private int ruled(int part) {
            Text rule = texts[town.rule];
            return rule == null ? 0 : rule.valueOf(part, names);
        }

        private static int clamped(int v, int least, int most) {
            return Math.max(least, Math.min(most, v));
        }

        int seenBy(int sleeper, int i) {
            int list = sleeper * WAYS + town.ways[sleeper];
            return i < seenCount[list] ? seenThing[list * MOST_THINGS + i] : NONE;
        }

        /** Everyone must have looked before. */
        void deal() {
            sortSleepers();
            int gone = 0;
            for (int i = 0; i < town.sleepers; i++) {
                int s = order[i];
                int at = firstFree(s * WAYS + town.ways[s], gone);
                had[s] = at == NONE ? NONE : seenThing[at];
                hadWorth[s] = at == NONE ? 0 : seenWorth[at];
                gone |= at == NONE ? 0 : 1 << seenThing[at];
            }
        }

        private int firstFree(int list, int gone) {
            int from = list * MOST_THINGS;
            for (int at = from; at < from + seenCount[list]; at++) {
                if ((gone & 1 << seenThing[at]) == 0) {
                    return at;
                }
            }
            return NONE;
        }

        private void sortSleepers() {
            for (int s = 0; s < town.sleepers; s++) {
                int at = s;
                while (at > 0 && wakesBefore(s, order[at - 1])) {
                    order[at] = order[at - 1];
                    at--;
                }
                order[at] = s;
            }
        }

        /** Of like ones the first is the lesser number, which is sorted in first anyway. */
        private boolean wakesBefore(int one, int other) {
            if (town.wakes[one] != town.wakes[other]) {
                return town.wakes[one] < town.wakes[other];
            }
            return town.ages[one] > town.ages[other];
        }

        int leftOf(int sleeper) {
            return hadWorth[sleeper] - sleepOf(sleeper);
        }

        int leftOfAll() {
            int all = 0;
            for (int s = 0; s < town.sleepers; s++) {
                all += leftOf(s);
            }
            return all;
        }

        /** Finds BEDS. What sleep costs is the same for all ways, so worths alone compete. */
        void standBeds() {
            lookAllWays();
            sortSleepers();
            bedsLeft = NONE;
            bedsDigits = 0;
            int codes = 1 << 2 * town.sleepers;
            // Codes go up as the digits do: of like ones the first has the least digits.
            for (int code = 0; code < codes; code++) {
                int worth = worthByCode(code);
                if (worth > bedsLeft) {
                    bedsLeft = worth;
                    bedsDigits = digitsOf(code);
                }
            }
            for (int s = 0; s < town.sleepers; s++) {
                bedsLeft -= sleepOf(s);
            }
        }

        private void lookAllWays() {
            for (int s = 0; s < town.sleepers; s++) {
                int way = town.ways[s];
                for (int w = 0; w < WAYS; w++) {
                    town.ways[s] = w;
                    look(s);
                }
                town.ways[s] = way;
            }
        }

        private int worthByCode(int code) {
            int gone = 0;
            int worth = 0;
            for (int i = 0; i < town.sleepers; i++) {
                int s = order[i];
                int at = firstFree(s * WAYS + wayByCode(code, s), gone);
                worth += at == NONE ? 0 : seenWorth[at];
                gone |= at == NONE ? 0 : 1 << seenThing[at];
            }
            return worth;
        }

        /** A code holds two bits for each sleeper, those of sleeper 0 the highest. */
        private int wayByCode(int code, int sleeper) {
            return code >> 2 * (town.sleepers - 1 - sleeper) & 3;
        }

        private int digitsOf(int code) {
            int digits = 0;
            for (int s = 0; s < town.sleepers; s++) {
                digits = 10 * digits + wayByCode(code, s);
            }
            return digits;
        }
    }

    /** A text's three parts as one row of steps, each part leaving its value on the stack. */
    private static final class Text {
        private final int[] code;
        private final int worthFrom;
        private final int sleepFrom;
        private final int[] stack = new int[STACK];

        Text(int[] code, int worthFrom, int sleepFrom) {
            this.code = code;
            this.worthFrom = worthFrom;
            this.sleepFrom = sleepFrom;
        }

        /** The reader has seen to it that no step finds too few values, or too many. */
        int valueOf(int part, int[] names) {
            int from = part == SEES_PART ? 0 : part == WORTH_PART ? worthFrom : sleepFrom;
            int to = part == SEES_PART ? worthFrom : part == WORTH_PART ? sleepFrom : code.length;
            int top = NONE;
            for (int i = from; i < to; i++) {
                int step = code[i];
                if (step > DO_OR && top + 1 < STACK) {
                    top++;
                    stack[top] = step >= 0 ? step : names[-1 - step];
                } else if (step == DO_NOT && top >= 0) {
                    stack[top] = stack[top] == 0 ? 1 : 0;
                } else if (step == DO_NEGATE && top >= 0) {
                    stack[top] = -stack[top];
                } else if (top >= 1) {
                    top--;
                    stack[top] = joined(step, stack[top], stack[top + 1]);
                }
            }
            return stack[0];
        }

        private static int joined(int what, int a, int b) {
            switch (what) {
                case DO_OR: return a != 0 || b != 0 ? 1 : 0;
                case DO_AND: return a != 0 && b != 0 ? 1 : 0;
                case DO_LESS: return a < b ? 1 : 0;
                case DO_EQUAL: return a == b ? 1 : 0;
                case DO_ADD: return a + b;
                case DO_TAKE: return a - b;
                default: return a * b;
            }
        }
    }

    /** Holds the tape and reads it; at is where the token begins that is looked at. */
    private static final class Reader {
        private final int[] tape = new int[TAPE];
        int size;
        int at;
        private int end;
        private int token;
        private int value;
        private final int[] code = new int[TAPE];
        private int codeSize;

        boolean put(int letter) {
            if (size >= TAPE) {
                return false;
            }
            tape[size] = letter;
            size++;
            return true;
        }

        /** Null by a fault: then at is its place, as no token behind it was looked at. */
        Text read() {
            end = 0;
            codeSize = 0;
            advance();
            if (!readPart(T_SEES)) {
                return null;
            }
            int worthFrom = codeSize;
            if (!readPart(T_WORTH)) {
                return null;
            }
            int sleepFrom = codeSize;
            if (!readPart(T_SLEEP) || token != T_END) {
                return null;
            }
            return new Text(Arrays.copyOf(code, codeSize), worthFrom, sleepFrom);
        }

        private boolean readPart(int key) {
            return skip(key) && readOr(0) && skip(';');
        }

        private boolean skip(int wanted) {
            if (token != wanted) {
                return false;
            }
            advance();
            return true;
        }

        // In the methods below open counts the signs and words that MOST_OPEN bounds; a loop
        // over operators can't go round more often than the tape has bytes.

        private boolean readOr(int open) {
            boolean good = readAnd(open);
            for (int i = 0; i < TAPE && good && token == T_OR; i++) {
                advance();
                good = readAnd(open);
                emit(DO_OR);
            }
            return good;
        }

        private boolean readAnd(int open) {
            boolean good = readNot(open);
            for (int i = 0; i < TAPE && good && token == T_AND; i++) {
                advance();
                good = readNot(open);
                emit(DO_AND);
            }
            return good;
        }

        private boolean readNot(int open) {
            if (token != T_NOT) {
                return readComparison(open);
            }
            if (open >= MOST_OPEN) {
                return false;
            }
            advance();
            boolean good = readNot(open + 1);
            emit(DO_NOT);
            return good;
        }

        private boolean readComparison(int open) {
            if (!readSum(open)) {
                return false;
            }
            if (token != '<' && token != '=') {
                return true;
            }
            int step = token == '<' ? DO_LESS : DO_EQUAL;
            advance();
            boolean good = readSum(open);
            emit(step);
            return good;
        }

        private boolean readSum(int open) {
            boolean good = readTerm(open);
            for (int i = 0; i < TAPE && good && (token == '+' || token == '-'); i++) {
                int step = token == '+' ? DO_ADD : DO_TAKE;
                advance();
                good = readTerm(open);
                emit(step);
            }
            return good;
        }

        private boolean readTerm(int open) {
            boolean good = readOne(open);
            for (int i = 0; i < TAPE && good && token == '*'; i++) {
                advance();
                good = readOne(open);
                emit(DO_TIMES);
            }
            return good;
        }

        private boolean readOne(int open) {
            if (token == T_NUMBER || token == T_NAME) {
                emit(token == T_NUMBER ? value : -1 - value);
                advance();
                return true;
            }
            if (token != '-' && token != '(' || open >= MOST_OPEN) {
                return false;
            }
            if (token == '(') {
                advance();
                return readOr(open + 1) && skip(')');
            }
            advance();
            boolean good = readOne(open + 1);
            emit(DO_NEGATE);
            return good;
        }

        private void emit(int step) {
            if (codeSize < TAPE) {
                code[codeSize] = step;
                codeSize++;
            }
        }

        private void advance() {
            at = end;
            while (at < size && (tape[at] == ' ' || tape[at] == '\n')) {
                at++;
            }
            end = at;
            if (at >= size) {
                token = T_END;
            } else if (isLetter(tape[at])) {
                readWord();
            } else if (isDigit(tape[at])) {
                readNumber();
            } else {
                token = isSign(tape[at]) ? tape[at] : T_WRONG;
                end = at + 1;
            }
        }

        private void readWord() {
            while (end < size && isLetter(tape[end])) {
                end++;
            }
            token = T_WRONG;
            int word = 0;
            int from = 0;
            for (int i = 0; i < WORDS.length(); i++) {
                if (WORDS.charAt(i) == ' ') {
                    if (spells(from, i)) {
                        token = word < NAMES ? T_NAME : T_SEES + word - NAMES;
                        value = word;
                    }
                    word++;
                    from = i + 1;
                }
            }
        }

        private void readNumber() {
            value = 0;
            while (end < size && isDigit(tape[end])) {
                // More digits than a number may have only spoil a value that nobody reads.
                value = 10 * value + tape[end] - '0';
                end++;
            }
            token = end - at > MOST_DIGITS ? T_WRONG : T_NUMBER;
        }

        /** Whether the token is what stands in WORDS there. */
        private boolean spells(int from, int to) {
            if (end - at != to - from) {
                return false;
            }
            for (int i = from; i < to; i++) {
                if (tape[at + i - from] != WORDS.charAt(i)) {
                    return false;
                }
            }
            return true;
        }

        private static boolean isLetter(int letter) {
            return letter >= 'a' && letter <= 'z';
        }

        private static boolean isDigit(int letter) {
            return letter >= '0' && letter <= '9';
        }

        private static boolean isSign(int letter) {
            return letter == '(' || letter == ')' || letter == ';' || letter == '+'
                    || letter == '-' || letter == '*' || letter == '<' || letter == '=';
        }
    }

    /** A row of numbers of one sort, or missing; its room is kept and used again. */
    private static final class Sheet {
        final int[] items = new int[MOST_ITEMS];
        int sort = MISSING;
        int size;

        void become(int newSort, int newSize) {
            sort = newSort;
            size = newSize;
            Arrays.fill(items, 0);
        }

        void put(int i, int v) {
            items[i] = sort == BYTES ? (byte) v : sort == SHORTS ? (short) v : v;
        }

        boolean holds(int from, int n) {
            return from >= 0 && n >= 0 && from <= size - n;
        }
    }
}
