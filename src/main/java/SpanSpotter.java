/**
 * Tower spotting for a power line: towers are placed along a ground profile so that the wires
 * clear the ground at the least cost. README.md says how it is used.
 */
public final class SpanSpotter {
    /** The value for "there is none", and the error codes. */
    public static final int NONE = -1, BAD = -2, NO = -3, FULL = -4;

    private static final int MOST_PLACES = 21;
    private static final int FEWEST_PLACES = 3;
    private static final int FIRST_LAST = 10;
    private static final int TEXT_BYTES = 200;
    private static final int MOST_BYTE = 127;
    private static final int SAVED_STATES = 6;
    private static final int FAULT_BASE = -10;
    private static final int EVEN = 10000;

    // The properties of a place and the settings, numbered as place(), lays() and sets() do.
    private static final int GROUND = 0, CLEARANCE = 1, PRICE = 2, BARRED = 3, KIND = 4;
    private static final int PROPERTIES = 5;
    private static final int FOOT = 0, RISE = 1, SAG_U = 2, SAG_L = 3, REACH = 4, LIFT = 5;
    private static final int SETTINGS = 6;
    private static final int[] PROPERTY_FIRST = {0, 5, 0, 0, -1};
    private static final int[] PROPERTY_MOST = {99, 30, 9, 1, 5};
    private static final int[] SETTING_FIRST = {12, 4, 1, 10, 4, 0};
    private static final int[] SETTING_LEAST = {1, 0, 0, 1, 1, 0};
    private static final int[] SETTING_MOST = {60, 20, 20, 200, 8, 9};

    // A kind is a level (of height) for a hanger, and a level + LEVELS for an anchor.
    private static final int KINDS = 6;
    private static final int LEVELS = 3;

    private static final int ALL_N = 4, ALL_SETTINGS = 5, ALL_BARRED = 11, ALL_ABOVE = 12;
    private static final int DIGEST_START = 2293;
    private static final int MODULUS = 1000000;

    private static final int LONGEST_REACH = 8;
    // A multiple of every length that a sound plan's span may have: it makes pulls whole numbers.
    private static final int LENGTHS_MULTIPLE = 840;
    private static final int STANDS = MOST_PLACES * LEVELS;
    private static final int SPANS = STANDS * LONGEST_REACH * LEVELS;
    // A weight is a cost * TOWER_STEP + a number of towers, so that the least weight has the
    // fewest towers of the least cost. NO_WAY lies above all of them.
    private static final int TOWER_STEP = 32;
    private static final int NO_WAY = 100000000;
    // Below every need: the parts of a pull stay within 40 million.
    private static final int ANY_PULL = -1000000000;

    private final Line line = new Line();
    private final History history = new History();
    private final Text text = new Text();
    private final Flaws flaws = new Flaws();
    private final Search search = new Search(line);
    private final Passage passage = new Passage(line, search);
    private boolean searched;
    private boolean passed;
    private int badCalls;
    private int noCalls;
    private int fullCalls;
    private long numerator;
    private long denominator = 1;

    /** Creates an object with the initial profile and settings, without towers and text. */
    public SpanSpotter() {
    }

    /** Appends a byte (0 to 127) to the text; returns how many bytes it has then. */
    public int type(int c) {
        if (!within(c, 0, MOST_BYTE)) {
            return fails(BAD);
        }
        if (text.length >= TEXT_BYTES) {
            return fails(FULL);
        }
        text.append(c);
        return text.length;
    }

    /** Empties the text; returns how many bytes it had. */
    public int clear() {
        int had = text.length;
        text.length = 0;
        return had;
    }

    /** Takes profile and settings from the text; returns its items, or -10 minus its fault. */
    public int reads() {
        int items = text.parse();
        if (items == NONE) {
            return FAULT_BASE - text.fault;
        }
        saveForChange();
        line.copyFrom(text.draft);
        forgetSearch();
        return items;
    }

    /** Returns one property of a place. */
    public int place(int x, int what) {
        if (!line.hasPlace(x) || !within(what, 0, PROPERTIES - 1)) {
            return fails(BAD);
        }
        return line.property[what][x];
    }

    /** Changes a property of a place; returns the old value. */
    public int lays(int x, int what, int v) {
        if (!line.hasPlace(x) || !within(what, GROUND, BARRED)
                || !within(v, 0, line.mostOf(x, what))) {
            return fails(BAD);
        }
        int old = line.property[what][x];
        if (old == v) {
            return fails(NO);
        }
        saveForChange();
        line.property[what][x] = v;
        forgetSearch();
        return old;
    }

    /** Changes a setting; returns the old value. */
    public int sets(int what, int v) {
        if (!isSetting(what, v)) {
            return fails(BAD);
        }
        int old = line.setting[what];
        if (old == v) {
            return fails(NO);
        }
        saveForChange();
        line.setting[what] = v;
        forgetSearch();
        return old;
    }

    /** Puts a tower at a place; returns how many towers there are then. */
    public int puts(int x, int kind) {
        if (!line.hasPlace(x) || !within(kind, 0, KINDS - 1)) {
            return fails(BAD);
        }
        if (line.property[KIND][x] == kind) {
            return fails(NO);
        }
        saveForChange();
        line.property[KIND][x] = kind;
        return line.countKinds(KINDS);
    }

    /** Removes a tower; returns how many towers there are then. */
    public int takes(int x) {
        if (!line.hasPlace(x)) {
            return fails(BAD);
        }
        if (!line.hasTower(x)) {
            return fails(NO);
        }
        saveForChange();
        line.property[KIND][x] = NONE;
        return line.countKinds(KINDS);
    }

    /** Moves a tower from x to y, past no other; returns how many flaws the plan has then. */
    public int moves(int x, int y) {
        if (!line.hasPlace(x) || !line.hasPlace(y)) {
            return fails(BAD);
        }
        if (!line.hasTower(x) || line.hasTower(y) || line.hasTowerBetween(x, y)) {
            return fails(NO);
        }
        saveForChange();
        line.property[KIND][y] = line.property[KIND][x];
        line.property[KIND][x] = NONE;
        flaws.list(line);
        return flaws.count;
    }

    /** Returns the place (what 0) or the number (what 1) of a flaw. */
    public int flaw(int k, int what) {
        if (k < 0 || !within(what, 0, 1)) {
            return fails(BAD);
        }
        flaws.list(line);
        if (k >= flaws.count) {
            return NONE;
        }
        return what == 0 ? flaws.places[k] : flaws.numbers[k];
    }

    /** Computes the room at a place between two towers, for upper() and lower(). */
    public int room(int x) {
        if (!line.hasPlace(x)) {
            return fails(BAD);
        }
        int a = line.towerBefore(x);
        int b = line.towerAfter(x);
        if (line.hasTower(x) || a == NONE || b == NONE) {
            return fails(NO);
        }
        keepFraction(line.roomUpper(a, line.topOf(a), b, line.topOf(b), x), line.roomLower(a, b));
        return 1;
    }

    /** Finds the place with the least room in the span from x on, for upper() and lower(). */
    public int nearest(int x) {
        if (!line.hasPlace(x)) {
            return fails(BAD);
        }
        int b = line.towerAfter(x);
        if (!line.hasTower(x) || b == NONE || b == x + 1) {
            return fails(NO);
        }
        int least = line.lowestRoom(x, line.topOf(x), b, line.topOf(b));
        keepFraction(line.roomUpper(x, line.topOf(x), b, line.topOf(b), least),
                line.roomLower(x, b));
        return least;
    }

    /** Computes the pull of a tower, for upper() and lower(). */
    public int pull(int x) {
        if (!line.hasPlace(x)) {
            return fails(BAD);
        }
        int a = line.towerBefore(x);
        int c = line.towerAfter(x);
        if (!line.hasTower(x) || a == NONE || c == NONE) {
            return fails(NO);
        }
        keepFraction(line.pullUpper(a, x, c), line.pullLower(a, x, c));
        return 1;
    }

    /** Tells about the cheapest plan: its cost, its towers, or numbers of sound plans. */
    public int cheapest(int what) {
        if (!within(what, 0, 3)) {
            return fails(BAD);
        }
        findCheapest();
        switch (what) {
            case 0:
                return costOf(search.bestWeight);
            case 1:
                return search.bestWeight >= NO_WAY ? NONE : search.towers;
            case 2:
                return search.bestCheap;
            default:
                return search.bestEvery;
        }
    }

    /** Returns the place (what 0) or the kind (what 1) of a tower of the cheapest plan. */
    public int spot(int k, int what) {
        if (k < 0 || !within(what, 0, 1)) {
            return fails(BAD);
        }
        findCheapest();
        if (k >= search.towers) {
            return NONE;
        }
        return what == 0 ? search.places[k] : search.kinds[k];
    }

    /** Returns the least cost of a sound plan with a tower at a place. */
    public int through(int x) {
        if (!line.hasPlace(x)) {
            return fails(BAD);
        }
        findCheapest();
        findPassages();
        return costOf(passage.weights[x]);
    }

    /** Makes the cheapest plan the present one; returns how many towers it has. */
    public int builds() {
        findCheapest();
        if (search.bestWeight >= NO_WAY || search.isBuilt()) {
            return fails(NO);
        }
        saveForChange();
        search.build();
        return search.towers;
    }

    /** Returns what the cheapest plan would cost if a setting had the value v. */
    public int otherwise(int what, int v) {
        if (!isSetting(what, v)) {
            return fails(BAD);
        }
        int present = line.setting[what];
        if (v == present) {
            findCheapest();
            return costOf(search.bestWeight);
        }
        line.setting[what] = v;
        search.solve();
        line.setting[what] = present;
        forgetSearch();
        return costOf(search.bestWeight);
    }

    /** Returns the numerator of the fraction computed last, 0 if there has been none. */
    public long upper() {
        return numerator;
    }

    /** Returns the denominator of the fraction computed last, 1 if there has been none. */
    public long lower() {
        return denominator;
    }

    /** Returns one of the numbers of the present plan, the profile and the settings. */
    public int all(int what) {
        if (!within(what, 0, ALL_ABOVE)) {
            return fails(BAD);
        }
        if (within(what, ALL_SETTINGS, ALL_SETTINGS + SETTINGS - 1)) {
            return line.setting[what - ALL_SETTINGS];
        }
        switch (what) {
            case 0:
                return line.countKinds(KINDS);
            case 1:
                return line.planCost();
            case 2:
                flaws.list(line);
                return flaws.count;
            case 3:
                return line.countKinds(LEVELS);
            case ALL_N:
                return line.last;
            case ALL_BARRED:
                return line.countBarred();
            default:
                findCheapest();
                return search.bestWeight >= NO_WAY
                        ? NONE : line.planCost() - costOf(search.bestWeight) + EVEN;
        }
    }

    /** Undoes a call; returns how many states are still saved. */
    public int back() {
        if (history.count == 0) {
            return fails(NO);
        }
        history.restore(line);
        flaws.listed = false;
        forgetSearch();
        return history.count;
    }

    /** Returns a count of errors (what 0 to 2), of text bytes (3) or of saved states (4). */
    public int told(int what) {
        switch (what) {
            case 0:
                return badCalls;
            case 1:
                return noCalls;
            case 2:
                return fullCalls;
            case 3:
                return text.length;
            case 4:
                return history.count;
            default:
                return fails(BAD);
        }
    }

    /** Returns a checksum of all that the object tells. */
    public long digest() {
        long h = DIGEST_START;
        for (int what = 0; what <= 4; what++) {
            h = 31 * h + told(what);
        }
        for (int what = 0; what <= ALL_ABOVE; what++) {
            h = 31 * h + all(what);
        }
        for (int x = 0; x <= line.last; x++) {
            for (int what = 0; what < PROPERTIES; what++) {
                h = 31 * h + place(x, what);
            }
        }
        flaws.list(line);
        for (int k = 0; k < flaws.count; k++) {
            h = 31 * h + flaw(k, 0);
            h = 31 * h + flaw(k, 1);
        }
        for (int what = 0; what <= 3; what++) {
            h = 31 * h + cheapest(what);
        }
        for (int k = 0; k < search.towers; k++) {
            h = 31 * h + spot(k, 0);
            h = 31 * h + spot(k, 1);
        }
        for (int x = 0; x <= line.last; x++) {
            h = 31 * h + through(x);
        }
        return h;
    }

    private int fails(int code) {
        if (code == BAD) {
            badCalls++;
        } else if (code == NO) {
            noCalls++;
        } else {
            fullCalls++;
        }
        return code;
    }

    private void saveForChange() {
        history.save(line);
        flaws.listed = false;
    }

    private void forgetSearch() {
        searched = false;
        passed = false;
    }

    private void findCheapest() {
        if (!searched) {
            search.solve();
            search.pickPlan();
            searched = true;
        }
    }

    private void findPassages() {
        if (!passed) {
            passage.trace();
            passed = true;
        }
    }

    private void keepFraction(long upper, long lower) {
        long divisor = commonDivisor(upper, lower);
        if (divisor > 0) {
            numerator = upper / divisor;
            denominator = lower / divisor;
        }
    }

    private static long commonDivisor(long upper, long lower) {
        long a = Math.abs(upper);
        long b = lower;
        // Euclid's remainders halve every two rounds, so a long has none left after 128.
        for (int round = 0; round < 128 && b != 0; round++) {
            long rest = a % b;
            a = b;
            b = rest;
        }
        return a;
    }

    private static int costOf(int weight) {
        return weight >= NO_WAY ? NONE : weight / TOWER_STEP;
    }

    private static boolean isSetting(int what, int v) {
        return within(what, 0, SETTINGS - 1)
                && within(v, SETTING_LEAST[what], SETTING_MOST[what]);
    }

    private static boolean within(int v, int least, int most) {
        return v >= least && v <= most;
    }

    /** A profile with its settings and a plan: what undo saves. */
    private static final class Line {
        private int last;
        private final int[][] property = new int[PROPERTIES][MOST_PLACES];
        private final int[] setting = new int[SETTINGS];

        Line() {
            restart();
        }

        void restart() {
            last = FIRST_LAST;
            for (int what = 0; what < PROPERTIES; what++) {
                for (int x = 0; x < MOST_PLACES; x++) {
                    property[what][x] = PROPERTY_FIRST[what];
                }
            }
            for (int what = 0; what < SETTINGS; what++) {
                setting[what] = SETTING_FIRST[what];
            }
        }

        void copyFrom(Line other) {
            last = other.last;
            for (int what = 0; what < PROPERTIES; what++) {
                System.arraycopy(other.property[what], 0, property[what], 0, MOST_PLACES);
            }
            System.arraycopy(other.setting, 0, setting, 0, SETTINGS);
        }

        boolean hasPlace(int x) {
            return within(x, 0, last);
        }

        boolean isEnd(int x) {
            return x == 0 || x == last;
        }

        int mostOf(int x, int what) {
            return what == BARRED && isEnd(x) ? 0 : PROPERTY_MOST[what];
        }

        boolean hasTower(int x) {
            return property[KIND][x] != NONE;
        }

        boolean hasTowerBetween(int x, int y) {
            int end = Math.max(x, y);
            for (int between = Math.min(x, y) + 1; between < end; between++) {
                if (hasTower(between)) {
                    return true;
                }
            }
            return false;
        }

        int towerBefore(int x) {
            for (int a = x - 1; a >= 0; a--) {
                if (hasTower(a)) {
                    return a;
                }
            }
            return NONE;
        }

        int towerAfter(int x) {
            for (int b = x + 1; b <= last; b++) {
                if (hasTower(b)) {
                    return b;
                }
            }
            return NONE;
        }

        /** How many towers have a kind below the given one. */
        int countKinds(int end) {
            int count = 0;
            for (int x = 0; x <= last; x++) {
                if (hasTower(x) && property[KIND][x] < end) {
                    count++;
                }
            }
            return count;
        }

        int countBarred() {
            int count = 0;
            for (int x = 0; x <= last; x++) {
                count += property[BARRED][x];
            }
            return count;
        }

        int planCost() {
            int cost = 0;
            for (int x = 0; x <= last; x++) {
                if (hasTower(x)) {
                    cost += towerCost(x, property[KIND][x]);
                }
            }
            return cost;
        }

        int towerCost(int x, int kind) {
            int one = 4 + height(kind);
            return (kind < LEVELS ? one : 2 * one) + property[PRICE][x];
        }

        int height(int kind) {
            return setting[FOOT] + kind % LEVELS * setting[RISE];
        }

        int topWith(int x, int kind) {
            return property[GROUND][x] + height(kind);
        }

        int topOf(int x) {
            return property[GROUND][x] + height(property[KIND][x]);
        }

        /** The room at x, times roomLower(a, b). */
        int roomUpper(int a, int topA, int b, int topB, int x) {
            int straight = topA * (b - x) + topB * (x - a);
            int needed = (property[GROUND][x] + property[CLEARANCE][x]) * (b - a);
            return setting[SAG_L] * (straight - needed)
                    - setting[SAG_U] * (x - a) * (b - x) * (b - a);
        }

        int roomLower(int a, int b) {
            return setting[SAG_L] * (b - a);
        }

        /** The first place with the least room between a and b, NONE if there is no place. */
        int lowestRoom(int a, int topA, int b, int topB) {
            int lowest = NONE;
            int least = 0;
            for (int x = a + 1; x < b; x++) {
                int room = roomUpper(a, topA, b, topB, x);
                if (lowest == NONE || room < least) {
                    lowest = x;
                    least = room;
                }
            }
            return lowest;
        }

        boolean clears(int a, int topA, int b, int topB) {
            for (int x = a + 1; x < b; x++) {
                if (roomUpper(a, topA, b, topB, x) < 0) {
                    return false;
                }
            }
            return true;
        }

        /** The pull of the tower at b, times pullLower(a, b, c). */
        int pullUpper(int a, int b, int c) {
            int sagging = setting[SAG_U] * (c - a) * (b - a) * (c - b);
            int before = (topOf(b) - topOf(a)) * (c - b);
            int after = (topOf(b) - topOf(c)) * (b - a);
            return sagging + setting[SAG_L] * (before + after);
        }

        int pullLower(int a, int b, int c) {
            return setting[SAG_L] * (b - a) * (c - b);
        }
    }

    /** The states that can be restored: a ring, in which a new one takes the oldest one's room. */
    private static final class History {
        private final Line[] ring = new Line[SAVED_STATES];
        private int oldest;
        private int count;

        History() {
            for (int i = 0; i < SAVED_STATES; i++) {
                ring[i] = new Line();
            }
        }

        void save(Line line) {
            if (count == SAVED_STATES) {
                oldest = (oldest + 1) % SAVED_STATES;
                count--;
            }
            ring[(oldest + count) % SAVED_STATES].copyFrom(line);
            count++;
        }

        void restore(Line line) {
            if (count > 0) {
                count--;
                line.copyFrom(ring[(oldest + count) % SAVED_STATES]);
            }
        }
    }

    /** The text, and its parser: draft is what it describes, fault where it can't be read. */
    private static final class Text {
        private final int[] bytes = new int[TEXT_BYTES];
        private final Line draft = new Line();
        private int length;
        private int at;
        private int fault;

        void append(int c) {
            if (length < TEXT_BYTES) {
                bytes[length] = c;
                length++;
            }
        }

        /** Returns the number of items, NONE if there is a fault. */
        int parse() {
            draft.restart();
            at = 0;
            if (!parseHeights()) {
                return NONE;
            }
            int items = 1;
            for (int round = 0; round < TEXT_BYTES && at < length; round++) {
                if (!parseItem()) {
                    return NONE;
                }
                items++;
            }
            return items;
        }

        private boolean parseHeights() {
            if (!accept('g')) {
                return false;
            }
            for (int x = 0; x < MOST_PLACES; x++) {
                int height = parseNumber(0, PROPERTY_MOST[GROUND], 2);
                if (height == NONE) {
                    return false;
                }
                draft.property[GROUND][x] = height;
                draft.last = x;
                if (x + 1 >= FEWEST_PLACES && peek() == ';') {
                    return accept(';');
                }
                if (x + 1 < MOST_PLACES && !accept(',')) {
                    return false;
                }
            }
            return accept(';');
        }

        private boolean parseItem() {
            int letter = peek();
            at++;
            switch (letter) {
                case 'n':
                    return parseClearances();
                case 'p':
                    return parsePrice();
                case 'b':
                    return parseBar();
                case 'f':
                    return parseSetting(FOOT, ',') && parseSetting(RISE, ';');
                case 's':
                    return parseSetting(SAG_U, ',') && parseSetting(SAG_L, ';');
                case 'r':
                    return parseSetting(REACH, ';');
                case 'l':
                    return parseSetting(LIFT, ';');
                default:
                    fault = at - 1;
                    return false;
            }
        }

        private boolean parseClearances() {
            int from = parseNumber(0, draft.last, 2);
            if (from == NONE || !accept(',')) {
                return false;
            }
            int to = parseNumber(from, draft.last, 2);
            if (to == NONE || !accept(',')) {
                return false;
            }
            int clearance = parseNumber(0, PROPERTY_MOST[CLEARANCE], 2);
            if (clearance == NONE || !accept(';')) {
                return false;
            }
            for (int x = from; x <= to; x++) {
                draft.property[CLEARANCE][x] = clearance;
            }
            return true;
        }

        private boolean parsePrice() {
            int x = parseNumber(0, draft.last, 2);
            if (x == NONE || !accept(',')) {
                return false;
            }
            int price = parseNumber(0, PROPERTY_MOST[PRICE], 2);
            if (price == NONE || !accept(';')) {
                return false;
            }
            draft.property[PRICE][x] = price;
            return true;
        }

        private boolean parseBar() {
            int x = parseNumber(1, draft.last - 1, 2);
            if (x == NONE || !accept(';')) {
                return false;
            }
            draft.property[BARRED][x] = 1;
            return true;
        }

        private boolean parseSetting(int what, char end) {
            int digits = what == SAG_L ? 3 : 2;
            int value = parseNumber(SETTING_LEAST[what], SETTING_MOST[what], digits);
            if (value == NONE || !accept(end)) {
                return false;
            }
            draft.setting[what] = value;
            return true;
        }

        /** Reads as many digits as a number may have; returns NONE if there is a fault. */
        private int parseNumber(int least, int most, int digits) {
            int value = 0;
            int read = 0;
            while (read < digits && within(peek(), '0', '9')) {
                value = 10 * value + peek() - '0';
                at++;
                read++;
            }
            if (read > 0 && within(value, least, most)) {
                return value;
            }
            fault = value > most ? at - 1 : at;
            return NONE;
        }

        private boolean accept(char c) {
            if (peek() == c) {
                at++;
                return true;
            }
            fault = at;
            return false;
        }

        /** The next byte, NONE at the end of the text. */
        private int peek() {
            return within(at, 0, length - 1) ? bytes[at] : NONE;
        }
    }

    /** The flaws of a plan, in their order. */
    private static final class Flaws {
        private static final int NO_ANCHOR = 1, ON_BARRED = 2, UPLIFT = 3, TOO_LONG = 4, LOW = 5;
        private static final int MOST_FLAWS = MOST_PLACES * 5;
        private final int[] places = new int[MOST_FLAWS];
        private final int[] numbers = new int[MOST_FLAWS];
        private int count;
        private boolean listed;

        void list(Line line) {
            if (listed) {
                return;
            }
            listed = true;
            count = 0;
            for (int x = 0; x <= line.last; x++) {
                inspect(line, x);
            }
        }

        private void inspect(Line line, int x) {
            int kind = line.property[KIND][x];
            if (line.isEnd(x) && kind < LEVELS) {
                add(x, NO_ANCHOR);
            }
            if (kind == NONE) {
                return;
            }
            if (line.property[BARRED][x] == 1) {
                add(x, ON_BARRED);
            }
            int next = line.towerAfter(x);
            if (next == NONE) {
                return;
            }
            // Neither end has towers on both sides, so the ends need no test of their own here.
            int previous = line.towerBefore(x);
            if (kind < LEVELS && previous != NONE && line.pullUpper(previous, x, next)
                    < line.setting[LIFT] * line.pullLower(previous, x, next)) {
                add(x, UPLIFT);
            }
            if (next - x > line.setting[REACH]) {
                add(x, TOO_LONG);
            }
            if (!line.clears(x, line.topOf(x), next, line.topOf(next))) {
                add(x, LOW);
            }
        }

        private void add(int x, int number) {
            if (count < MOST_FLAWS) {
                places[count] = x;
                numbers[count] = number;
                count++;
            }
        }
    }

    /** Ways to finish a plan: the least weight, how many have its cost, and how many there are. */
    private static final class Tally {
        private int weight;
        private int cheap;
        private int every;

        void restart() {
            weight = NO_WAY;
            cheap = 0;
            every = 0;
        }

        void add(int otherWeight, int otherCheap, int otherEvery) {
            if (otherWeight >= NO_WAY) {
                return;
            }
            every = (every + otherEvery) % MODULUS;
            int cost = weight / TOWER_STEP;
            int otherCost = otherWeight / TOWER_STEP;
            if (otherCost < cost) {
                cheap = otherCheap;
            } else if (otherCost == cost) {
                cheap = (cheap + otherCheap) % MODULUS;
            }
            if (otherWeight < weight) {
                weight = otherWeight;
            }
        }
    }

    /**
     * Finds the cheapest plan and counts the sound ones, from the last place backward. Whether a
     * hanger is pulled enough depends on the spans at both its sides, so the ways to finish a
     * plan are tallied for each span, not for each tower. Towers of one height are alike there:
     * a span is known by its place, its length and the levels of its two towers.
     */
    private static final class Search {
        private final Line line;
        private final int[] ownWeight = new int[MOST_PLACES * KINDS];
        // What a span's slope adds to the pull of its later tower, and takes from its earlier's.
        private final int[] slope = new int[SPANS];
        // The tally of each span, of its later tower and all after it.
        private final int[] weight = new int[SPANS];
        private final int[] cheap = new int[SPANS];
        private final int[] every = new int[SPANS];
        // The tally of all that may follow an anchor.
        private final int[] openWeight = new int[STANDS];
        private final int[] openCheap = new int[STANDS];
        private final int[] openEvery = new int[STANDS];
        private final Tally tally = new Tally();
        private int leastPull;
        private int bestWeight;
        private int bestCheap;
        private int bestEvery;
        private int towers;
        private final int[] places = new int[MOST_PLACES];
        private final int[] kinds = new int[MOST_PLACES];

        Search(Line line) {
            this.line = line;
        }

        void solve() {
            leastPull = LENGTHS_MULTIPLE * line.setting[SAG_L] * line.setting[LIFT];
            weighTowers();
            for (int a = line.last - 1; a >= 0; a--) {
                for (int level = 0; level < LEVELS; level++) {
                    tallySpansFrom(a, level);
                    tallyOpen(a, level);
                }
            }
            tallyPlans();
        }

        boolean isBuilt() {
            if (line.countKinds(KINDS) != towers) {
                return false;
            }
            for (int k = 0; k < towers; k++) {
                if (line.property[KIND][places[k]] != kinds[k]) {
                    return false;
                }
            }
            return true;
        }

        void build() {
            for (int x = 0; x < MOST_PLACES; x++) {
                line.property[KIND][x] = NONE;
            }
            for (int k = 0; k < towers; k++) {
                line.property[KIND][places[k]] = kinds[k];
            }
        }

        int spanOf(int a, int levelA, int length, int levelB) {
            return ((a * LEVELS + levelA) * LONGEST_REACH + length - 1) * LEVELS + levelB;
        }

        int stand(int x, int level) {
            return x * LEVELS + level;
        }

        int longestFrom(int a) {
            int left = line.last - a;
            return left < line.setting[REACH] ? left : line.setting[REACH];
        }

        int towerWeight(int x, int kind) {
            return ownWeight[x * KINDS + kind];
        }

        // The two parts of a hanger's pull, times LENGTHS_MULTIPLE and L: their sum must be at
        // least leastPull.
        int pullBefore(int span, int length) {
            return LENGTHS_MULTIPLE * line.setting[SAG_U] * length + slope[span];
        }

        int pullAfter(int span, int length) {
            return LENGTHS_MULTIPLE * line.setting[SAG_U] * length - slope[span];
        }

        private void weighTowers() {
            for (int x = 0; x <= line.last; x++) {
                for (int kind = 0; kind < KINDS; kind++) {
                    ownWeight[x * KINDS + kind] = line.towerCost(x, kind) * TOWER_STEP + 1;
                }
            }
        }

        private void tallySpansFrom(int a, int levelA) {
            int longest = longestFrom(a);
            for (int length = 1; length <= longest; length++) {
                for (int levelB = 0; levelB < LEVELS; levelB++) {
                    tallySpan(a, levelA, length, levelB);
                }
            }
        }

        private void tallySpan(int a, int levelA, int length, int levelB) {
            int span = spanOf(a, levelA, length, levelB);
            int b = a + length;
            int topA = line.topWith(a, levelA);
            int topB = line.topWith(b, levelB);
            slope[span] = (topB - topA) * line.setting[SAG_L] * (LENGTHS_MULTIPLE / length);
            tally.restart();
            if (mayStand(a) && mayStand(b) && line.clears(a, topA, b, topB)) {
                addAnchor(b, levelB);
                // Nothing follows the last place, so that no hanger comes to stand there.
                addFollowing(b, levelB, leastPull - pullBefore(span, length),
                        towerWeight(b, levelB));
            }
            weight[span] = tally.weight;
            cheap[span] = tally.cheap;
            every[span] = tally.every;
        }

        private boolean mayStand(int x) {
            return line.property[BARRED][x] == 0;
        }

        private void addAnchor(int x, int level) {
            int own = towerWeight(x, level + LEVELS);
            if (x == line.last) {
                tally.add(own, 1, 1);
            } else {
                int stand = stand(x, level);
                tally.add(openWeight[stand] + own, openCheap[stand], openEvery[stand]);
            }
        }

        private void addFollowing(int x, int level, int need, int own) {
            int longest = longestFrom(x);
            for (int length = 1; length <= longest; length++) {
                for (int levelB = 0; levelB < LEVELS; levelB++) {
                    int span = spanOf(x, level, length, levelB);
                    if (pullAfter(span, length) >= need) {
                        tally.add(weight[span] + own, cheap[span], every[span]);
                    }
                }
            }
        }

        private void tallyOpen(int x, int level) {
            int stand = stand(x, level);
            tally.restart();
            addFollowing(x, level, ANY_PULL, 0);
            openWeight[stand] = tally.weight;
            openCheap[stand] = tally.cheap;
            openEvery[stand] = tally.every;
        }

        private void tallyPlans() {
            tally.restart();
            for (int level = 0; level < LEVELS; level++) {
                addAnchor(0, level);
            }
            bestWeight = tally.weight;
            bestCheap = tally.cheap;
            bestEvery = tally.every;
        }

        /** Picks, tower by tower, the first that leads to the least weight. */
        void pickPlan() {
            towers = 0;
            if (bestWeight >= NO_WAY) {
                return;
            }
            pickFirst();
            int rest = bestWeight;
            int need = ANY_PULL;
            for (int k = 1; k < MOST_PLACES && towers == k && places[k - 1] < line.last; k++) {
                rest -= towerWeight(places[k - 1], kinds[k - 1]);
                need = pickNext(places[k - 1], kinds[k - 1] % LEVELS, need, rest);
            }
        }

        private void pickFirst() {
            for (int level = 0; level < LEVELS && towers == 0; level++) {
                tally.restart();
                addAnchor(0, level);
                if (tally.weight == bestWeight) {
                    pick(0, level + LEVELS);
                }
            }
        }

        /** Returns what the picked tower needs of the span after it. */
        private int pickNext(int a, int levelA, int need, int rest) {
            int longest = longestFrom(a);
            for (int length = 1; length <= longest; length++) {
                for (int kind = 0; kind < KINDS; kind++) {
                    int span = spanOf(a, levelA, length, kind % LEVELS);
                    if (weight[span] == rest && pullAfter(span, length) >= need) {
                        int needAfter = kind < LEVELS
                                ? leastPull - pullBefore(span, length) : ANY_PULL;
                        if (weightWith(a + length, kind, needAfter) == rest) {
                            pick(a + length, kind);
                            return needAfter;
                        }
                    }
                }
            }
            return ANY_PULL;
        }

        private int weightWith(int x, int kind, int need) {
            tally.restart();
            if (kind < LEVELS) {
                addFollowing(x, kind, need, towerWeight(x, kind));
            } else {
                addAnchor(x, kind - LEVELS);
            }
            return tally.weight;
        }

        private void pick(int x, int kind) {
            if (towers < MOST_PLACES) {
                places[towers] = x;
                kinds[towers] = kind;
                towers++;
            }
        }
    }

    /**
     * Finds the least weight of the plans with a tower at each place: of what leads to a span,
     * computed here from place 0 on, and of the span itself with what follows, which the search
     * has tallied.
     */
    private static final class Passage {
        private final Line line;
        private final Search search;
        private final int[] before = new int[SPANS];
        private final int[] weights = new int[MOST_PLACES];

        Passage(Line line, Search search) {
            this.line = line;
            this.search = search;
        }

        void trace() {
            weights[0] = search.bestWeight;
            for (int x = 1; x <= line.last; x++) {
                weights[x] = NO_WAY;
            }
            for (int a = 0; a < line.last; a++) {
                for (int level = 0; level < LEVELS; level++) {
                    traceFrom(a, level);
                }
            }
        }

        private void traceFrom(int a, int levelA) {
            int anchored = search.towerWeight(a, levelA + LEVELS);
            if (a > 0) {
                anchored += leastInto(a, levelA, ANY_PULL);
            }
            int longest = search.longestFrom(a);
            for (int length = 1; length <= longest; length++) {
                for (int levelB = 0; levelB < LEVELS; levelB++) {
                    int span = search.spanOf(a, levelA, length, levelB);
                    before[span] = NO_WAY;
                    if (search.weight[span] < NO_WAY) {
                        int need = search.leastPull - search.pullAfter(span, length);
                        int hung = search.towerWeight(a, levelA) + leastInto(a, levelA, need);
                        before[span] = Math.min(anchored, hung);
                    }
                    weights[a + length] = Math.min(weights[a + length],
                            before[span] + search.weight[span]);
                }
            }
        }

        /** The least weight of what leads to a tower; nothing leads to place 0. */
        private int leastInto(int b, int levelB, int need) {
            int least = NO_WAY;
            int longest = Math.min(line.setting[REACH], b);
            for (int length = 1; length <= longest; length++) {
                for (int levelA = 0; levelA < LEVELS; levelA++) {
                    int span = search.spanOf(b - length, levelA, length, levelB);
                    if (search.pullBefore(span, length) >= need) {
                        least = Math.min(least, before[span]);
                    }
                }
            }
            return least;
        }
    }
}
