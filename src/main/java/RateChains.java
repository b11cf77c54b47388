/**
 * Rates of what is recycled, by chains of plants. The promises stand in DOC.md.
 *
 * Every fraction that comes in is so many tenths, so the worths of one kind are whole numbers over
 * one common number of at most 10^5, and all that is told stays exact within a long.
 */
public final class RateChains {
    public static final int NONE = -1;

    private static final int MOST_PLANTS = 5;
    private static final int KINDS = 4;
    private static final int YEARS = 10;
    private static final int COUNTRIES = 4;
    private static final int MOST_FEEDS = 60;
    private static final int MOST_UNITS = 200;
    private static final long MOST_GRAMS = 1000000000L;
    private static final long MOST_PLACED = 100000000000L;
    private static final long MOST_CLAIMED = 1000000000000L;

    /** One whole, in tenths. */
    private static final int WHOLE = 10;
    private static final int METAL_KIND = 3;
    private static final int METAL_COUNTRY = 0;
    private static final int RATE_COUNTRY = 0;
    private static final int YEARS_BEFORE = 2;

    private final Plants plants;
    private final Feeds feeds;
    private final long[] metalGrams;
    private final long[] placedGrams;
    private final Solved solved;
    private final Draw draw;
    private final Text text;

    public RateChains() {
        plants = new Plants();
        feeds = new Feeds();
        metalGrams = new long[YEARS];
        placedGrams = new long[KINDS * YEARS];
        solved = new Solved();
        draw = new Draw();
        text = new Text();
    }

    public int plant() {
        return plants.add();
    }

    public boolean share(int plant, int to, long above, long below) {
        int tenths = tenthsOf(above, below);
        if (tenths == NONE || !plants.has(plant) || !plants.has(to)) {
            return false;
        }
        return plants.setShare(plant, to, tenths);
    }

    public boolean point(int plant, int kind) {
        return plants.has(plant) && isKind(kind) && plants.setPoint(plant, kind);
    }

    public boolean average(int plant, long above, long below) {
        int tenths = tenthsOf(above, below);
        if (tenths == NONE || !plants.has(plant)) {
            return false;
        }
        plants.setLoss(plant, tenths);
        return true;
    }

    public boolean feed(int plant, int kind, long grams, int year, int country) {
        if (!plants.has(plant) || !isKind(kind) || !isYear(year) || !isCountry(country)) {
            return false;
        }
        return isWithin(grams, 0, MOST_GRAMS) && feeds.add(plant, kind, grams, year, country);
    }

    public boolean metals(int year, long grams) {
        if (!isYear(year) || !isWithin(grams, 0, MOST_GRAMS)) {
            return false;
        }
        metalGrams[year] = grams;
        return true;
    }

    public boolean placed(int kind, int year, long grams) {
        if (!isKind(kind) || !isYear(year) || !isWithin(grams, 0, MOST_PLACED)) {
            return false;
        }
        placedGrams[cell(kind, year)] = grams;
        return true;
    }

    public int solve() {
        int ring = plants.leastInRing();
        if (ring != NONE) {
            return 1 + ring;
        }
        solved.keep(plants, feeds, metalGrams);
        return 0;
    }

    public long counted(int kind, int year, int part) {
        if (!solved.isThere() || !isKind(kind) || !isYear(year) || !isPart(part)) {
            return NONE;
        }
        return partOf(solved.aboveOf(kind, year), solved.belowOf(kind), part);
    }

    public long rate(int kind, int year, int part) {
        if (!solved.isThere() || !isKind(kind) || !isYear(year) || !isPart(part)) {
            return NONE;
        }
        long grams = placedGrams[cell(kind, year)];
        if (grams == 0) {
            return 0;
        }
        long above = solved.aboveOfCountry(RATE_COUNTRY, kind, year);
        return partOf(above, solved.belowOf(kind) * grams, part);
    }

    public int twice(int k) {
        int passed = 0;
        for (int slot = 0; slot < MOST_PLANTS * KINDS; slot++) {
            if (plants.isPointWithAverage(slot / KINDS, slot % KINDS)) {
                if (passed == k) {
                    return slot;
                }
                passed++;
            }
        }
        return NONE;
    }

    public int told(int k) {
        int passed = 0;
        for (int plant = 0; plant < MOST_PLANTS; plant++) {
            if (solved.lostBareAt(plant)) {
                if (passed == k) {
                    return plant;
                }
                passed++;
            }
        }
        return NONE;
    }

    public boolean once() {
        return !solved.isThere() || solved.isNeverMoreThanBrought();
    }

    public long claim(int country, int kind, int year, long grams) {
        if (!hasStock(country, kind, year) || !isWithin(grams, 1, MOST_CLAIMED)) {
            return NONE;
        }
        return solved.take(country, kind, year, grams);
    }

    public long left(int country, int kind, int year) {
        return hasStock(country, kind, year) ? solved.stockOf(country, kind, year) : NONE;
    }

    public long open(int yearA, int yearB, int k, int part) {
        if (!solved.isThere() || !isYear(yearA) || !isYear(yearB) || !isPart(part)) {
            return 0;
        }
        if (k < 0 || !plants.has(k / KINDS)) {
            return 0;
        }
        int kind = k % KINDS;
        long above = solved.difference(k / KINDS, kind, yearA, yearB);
        return partOf(above, solved.belowOf(kind), part);
    }

    public int audit(long seed, int n) {
        if (n < 1 || n > feeds.size()) {
            return NONE;
        }
        draw.take(seed, n, feeds.size());
        return n;
    }

    public int drawn(int k) {
        return draw.row(k);
    }

    public boolean unit(int u) {
        return u >= 0 && u <= 255 && text.add(u);
    }

    public int form(int i) {
        return i < 0 ? NONE : text.filledAt(i, solved);
    }

    private boolean hasStock(int country, int kind, int year) {
        return solved.isThere() && isCountry(country) && isKind(kind) && isYear(year);
    }

    private static boolean isKind(int kind) {
        return kind >= 0 && kind < KINDS;
    }

    private static boolean isYear(int year) {
        return year >= 0 && year < YEARS;
    }

    private static boolean isCountry(int country) {
        return country >= 0 && country < COUNTRIES;
    }

    private static boolean isPart(int part) {
        return part == 0 || part == 1;
    }

    private static boolean isWithin(long grams, long least, long most) {
        return grams >= least && grams <= most;
    }

    private static int cell(int kind, int year) {
        return kind * YEARS + year;
    }

    private static int slotOf(int plant, int kind) {
        return plant * KINDS + kind;
    }

    /** The fraction in tenths, or NONE when it is no fraction. */
    private static int tenthsOf(long above, long below) {
        boolean isBelow = below == 1 || below == 2 || below == 5 || below == 10;
        if (!isBelow || above < 0 || above > below) {
            return NONE;
        }
        return (int) (above * (WHOLE / below));
    }

    /** A part of above / below in lowest terms; below is above 0. */
    private static long partOf(long above, long below, int part) {
        long common = commonOf(above < 0 ? -above : above, below);
        if (common == 0) {
            return 0;
        }
        return part == 0 ? above / common : below / common;
    }

    private static long commonOf(long a, long b) {
        long high = a;
        long low = b;
        // Euclid's rest at least halves every two steps, so a long needs fewer than 128 of them.
        for (int step = 0; step < 128 && low != 0; step++) {
            long rest = high % low;
            high = low;
            low = rest;
        }
        return high;
    }

    /** The plants as they are now. A number that is no plant yet has no share, point or average. */
    private static final class Plants {
        private final int[] shares = new int[MOST_PLANTS * MOST_PLANTS];
        private final int[] shareSums = new int[MOST_PLANTS];
        private final boolean[] points = new boolean[MOST_PLANTS * KINDS];
        private final boolean[] averaged = new boolean[MOST_PLANTS];
        private final int[] losses = new int[MOST_PLANTS];
        private final boolean[] ends = new boolean[MOST_PLANTS];
        private int size = 0;

        int add() {
            if (size >= MOST_PLANTS) {
                return NONE;
            }
            size++;
            return size - 1;
        }

        boolean has(int plant) {
            return plant >= 0 && plant < size;
        }

        boolean setShare(int plant, int to, int tenths) {
            int sum = shareSums[plant] - shareOf(plant, to) + tenths;
            if (sum > WHOLE) {
                return false;
            }
            shares[plant * MOST_PLANTS + to] = tenths;
            shareSums[plant] = sum;
            return true;
        }

        boolean setPoint(int plant, int kind) {
            if (isPoint(plant, kind)) {
                return false;
            }
            points[slotOf(plant, kind)] = true;
            return true;
        }

        void setLoss(int plant, int tenths) {
            averaged[plant] = true;
            losses[plant] = tenths;
        }

        int shareOf(int plant, int to) {
            return shares[plant * MOST_PLANTS + to];
        }

        boolean isPoint(int plant, int kind) {
            return points[slotOf(plant, kind)];
        }

        boolean isPointWithAverage(int plant, int kind) {
            return averaged[plant] && isPoint(plant, kind);
        }

        boolean goesOn(int plant, int kind) {
            return !isPoint(plant, kind) && shareSums[plant] > 0;
        }

        boolean isBare(int plant, int kind) {
            return !isPoint(plant, kind) && shareSums[plant] == 0 && !averaged[plant];
        }

        /** Tenths of what comes into a plant that count there, where nothing goes on. */
        int tenthsCounted(int plant, int kind) {
            if (isPoint(plant, kind)) {
                return WHOLE;
            }
            return averaged[plant] ? WHOLE - losses[plant] : 0;
        }

        /** The least plant of which all goes round for ever for some kind, or NONE. */
        int leastInRing() {
            int least = NONE;
            for (int kind = 0; kind < KINDS; kind++) {
                int ring = leastInRingOf(kind);
                if (ring != NONE && (least == NONE || ring < least)) {
                    least = ring;
                }
            }
            return least;
        }

        private int leastInRingOf(int kind) {
            findEnds(kind);
            for (int plant = 0; plant < MOST_PLANTS; plant++) {
                if (!ends[plant]) {
                    return plant;
                }
            }
            return NONE;
        }

        /** Marks the plants from which something counts or is lost at last. */
        private void findEnds(int kind) {
            for (int plant = 0; plant < MOST_PLANTS; plant++) {
                ends[plant] = !goesOn(plant, kind) || shareSums[plant] < WHOLE;
            }
            // A way to an end passes each plant at most once.
            for (int step = 1; step < MOST_PLANTS; step++) {
                for (int plant = 0; plant < MOST_PLANTS; plant++) {
                    ends[plant] = ends[plant] || goesToAnEnd(plant);
                }
            }
        }

        private boolean goesToAnEnd(int plant) {
            for (int to = 0; to < MOST_PLANTS; to++) {
                if (ends[to] && shareOf(plant, to) > 0) {
                    return true;
                }
            }
            return false;
        }
    }

    /** The rows that were fed. */
    private static final class Feeds {
        private final int[] plants = new int[MOST_FEEDS];
        private final int[] kinds = new int[MOST_FEEDS];
        private final int[] years = new int[MOST_FEEDS];
        private final int[] countries = new int[MOST_FEEDS];
        private final long[] grams = new long[MOST_FEEDS];
        private int size = 0;

        boolean add(int plant, int kind, long some, int year, int country) {
            if (size >= MOST_FEEDS) {
                return false;
            }
            plants[size] = plant;
            kinds[size] = kind;
            years[size] = year;
            countries[size] = country;
            grams[size] = some;
            size++;
            return true;
        }

        int size() {
            return size;
        }

        int plantOf(int row) {
            return plants[row];
        }

        int kindOf(int row) {
            return kinds[row];
        }

        int yearOf(int row) {
            return years[row];
        }

        int countryOf(int row) {
            return countries[row];
        }

        long gramsOf(int row) {
            return grams[row];
        }
    }

    /** The worths of all plants for one kind, by elimination in whole numbers. */
    private static final class Worths {
        private final long[][] rows = new long[MOST_PLANTS][MOST_PLANTS + 1];

        /** Finds the worths where it stands; answers what all of them are over, 0 if there are none. */
        long find(Plants plants, int kind) {
            fill(plants, kind);
            long last = 1;
            for (int step = 0; step < MOST_PLANTS; step++) {
                // Where it stands no pivot is 0: all leading minors of these rows are above 0.
                long pivot = rows[step][step];
                if (pivot == 0) {
                    return 0;
                }
                clearColumn(step, last);
                last = pivot;
            }
            return last;
        }

        long aboveOf(int plant) {
            return rows[plant][MOST_PLANTS];
        }

        private void fill(Plants plants, int kind) {
            for (int plant = 0; plant < MOST_PLANTS; plant++) {
                boolean goesOn = plants.goesOn(plant, kind);
                for (int to = 0; to < MOST_PLANTS; to++) {
                    rows[plant][to] = goesOn ? -plants.shareOf(plant, to) : 0;
                }
                rows[plant][plant] += WHOLE;
                rows[plant][MOST_PLANTS] = goesOn ? 0 : plants.tenthsCounted(plant, kind);
            }
        }

        private void clearColumn(int step, long last) {
            for (int row = 0; row < MOST_PLANTS; row++) {
                if (row != step) {
                    clearRow(row, step, last);
                }
            }
        }

        /** Bareiss's step: the division by the pivot before leaves no rest and keeps numbers small. */
        private void clearRow(int row, int step, long last) {
            if (last == 0) {
                return;
            }
            long pivot = rows[step][step];
            long factor = rows[row][step];
            for (int at = 0; at <= MOST_PLANTS; at++) {
                rows[row][at] = (pivot * rows[row][at] - factor * rows[step][at]) / last;
            }
        }
    }

    /** What was solved, as all was then, and what claims left of it. */
    private static final class Solved {
        private final Worths worths = new Worths();
        private final long[] below = new long[KINDS];
        private final long[] worthAbove = new long[MOST_PLANTS * KINDS];
        private final long[] fedGrams = new long[MOST_PLANTS * KINDS * YEARS];
        private final long[] broughtGrams = new long[KINDS * YEARS];
        private final long[] countedAbove = new long[COUNTRIES * KINDS * YEARS];
        private final long[] stocks = new long[COUNTRIES * KINDS * YEARS];
        private final boolean[] came = new boolean[MOST_PLANTS];
        private final boolean[] lostBare = new boolean[MOST_PLANTS];
        private boolean there = false;

        boolean isThere() {
            return there;
        }

        long belowOf(int kind) {
            return below[kind];
        }

        long aboveOfCountry(int country, int kind, int year) {
            return countedAbove[place(country, kind, year)];
        }

        /** Of all countries together. */
        long aboveOf(int kind, int year) {
            long sum = 0;
            for (int country = 0; country < COUNTRIES; country++) {
                sum += aboveOfCountry(country, kind, year);
            }
            return sum;
        }

        long wholeGrams(int kind, int year) {
            return down(aboveOf(kind, year), kind);
        }

        long stockOf(int country, int kind, int year) {
            return stocks[place(country, kind, year)];
        }

        boolean lostBareAt(int plant) {
            return lostBare[plant];
        }

        long difference(int plant, int kind, int yearA, int yearB) {
            int slot = slotOf(plant, kind);
            long more = fedGrams[slot * YEARS + yearB] - fedGrams[slot * YEARS + yearA];
            return more * worthAbove[slot];
        }

        boolean isNeverMoreThanBrought() {
            for (int kind = 0; kind < KINDS; kind++) {
                for (int year = 0; year < YEARS; year++) {
                    if (aboveOf(kind, year) > broughtGrams[cell(kind, year)] * below[kind]) {
                        return false;
                    }
                }
            }
            return true;
        }

        /** Takes grams of the stocks of a year and those before it; answers what is left of them. */
        long take(int country, int kind, int year, long grams) {
            int first = Math.max(0, year - YEARS_BEFORE);
            long sum = 0;
            for (int at = first; at <= year; at++) {
                sum += stockOf(country, kind, at);
            }
            if (sum < grams) {
                return NONE;
            }
            long due = grams;
            for (int at = first; at <= year; at++) {
                long part = Math.min(due, stockOf(country, kind, at));
                stocks[place(country, kind, at)] -= part;
                due -= part;
            }
            return sum - grams;
        }

        void keep(Plants plants, Feeds feeds, long[] metalGrams) {
            there = true;
            for (int kind = 0; kind < KINDS; kind++) {
                keepWorths(plants, kind);
            }
            clearSums();
            addMetals(metalGrams);
            for (int row = 0; row < feeds.size(); row++) {
                addFeed(feeds, row);
            }
            fillStocks();
            for (int kind = 0; kind < KINDS; kind++) {
                markLostBare(plants, feeds, kind);
            }
        }

        private void keepWorths(Plants plants, int kind) {
            below[kind] = worths.find(plants, kind);
            for (int plant = 0; plant < MOST_PLANTS; plant++) {
                worthAbove[slotOf(plant, kind)] = worths.aboveOf(plant);
            }
        }

        private void clearSums() {
            clear(fedGrams);
            clear(broughtGrams);
            clear(countedAbove);
            for (int plant = 0; plant < MOST_PLANTS; plant++) {
                lostBare[plant] = false;
            }
        }

        private void addMetals(long[] metalGrams) {
            for (int year = 0; year < YEARS && year < metalGrams.length; year++) {
                long grams = metalGrams[year];
                broughtGrams[cell(METAL_KIND, year)] += grams;
                countedAbove[place(METAL_COUNTRY, METAL_KIND, year)] += grams * below[METAL_KIND];
            }
        }

        private void addFeed(Feeds feeds, int row) {
            int kind = feeds.kindOf(row);
            int year = feeds.yearOf(row);
            int slot = slotOf(feeds.plantOf(row), kind);
            long grams = feeds.gramsOf(row);
            fedGrams[slot * YEARS + year] += grams;
            broughtGrams[cell(kind, year)] += grams;
            countedAbove[place(feeds.countryOf(row), kind, year)] += grams * worthAbove[slot];
        }

        private void fillStocks() {
            for (int country = 0; country < COUNTRIES; country++) {
                for (int kind = 0; kind < KINDS; kind++) {
                    for (int year = 0; year < YEARS; year++) {
                        int at = place(country, kind, year);
                        stocks[at] = down(countedAbove[at], kind);
                    }
                }
            }
        }

        private void markLostBare(Plants plants, Feeds feeds, int kind) {
            findCame(plants, feeds, kind);
            for (int plant = 0; plant < MOST_PLANTS; plant++) {
                if (came[plant] && plants.isBare(plant, kind)) {
                    lostBare[plant] = true;
                }
            }
        }

        /** Marks the plants into which something of a kind came, fed there or gone on from others. */
        private void findCame(Plants plants, Feeds feeds, int kind) {
            for (int plant = 0; plant < MOST_PLANTS; plant++) {
                came[plant] = false;
            }
            for (int row = 0; row < feeds.size(); row++) {
                if (feeds.kindOf(row) == kind && feeds.gramsOf(row) > 0) {
                    came[feeds.plantOf(row)] = true;
                }
            }
            for (int step = 1; step < MOST_PLANTS; step++) {
                for (int plant = 0; plant < MOST_PLANTS; plant++) {
                    if (came[plant] && plants.goesOn(plant, kind)) {
                        markNext(plants, plant);
                    }
                }
            }
        }

        private void markNext(Plants plants, int plant) {
            for (int to = 0; to < MOST_PLANTS; to++) {
                came[to] = came[to] || plants.shareOf(plant, to) > 0;
            }
        }

        private long down(long above, int kind) {
            return below[kind] > 0 ? above / below[kind] : 0;
        }

        private static void clear(long[] row) {
            for (int at = 0; at < row.length; at++) {
                row[at] = 0;
            }
        }

        private static int place(int country, int kind, int year) {
            return (country * KINDS + kind) * YEARS + year;
        }
    }

    /** The latest audit: the list of rows, of which the first ones are drawn. */
    private static final class Draw {
        private static final long FACTOR = 6364136223846793005L;
        private static final long ADDED = 1442695040888963407L;

        private final int[] rows = new int[MOST_FEEDS];
        private int count = 0;

        /** Draws n of the rows below size; n is 1 .. size. */
        void take(long seed, int n, int size) {
            for (int row = 0; row < size; row++) {
                rows[row] = row;
            }
            long x = seed;
            for (int i = 0; i < n && i < size; i++) {
                x = x * FACTOR + ADDED;
                swap(i, i + (int) ((x >>> 33) % (size - i)));
            }
            count = n;
        }

        int row(int k) {
            return k >= 0 && k < count ? rows[k] : NONE;
        }

        private void swap(int a, int b) {
            int row = rows[a];
            rows[a] = rows[b];
            rows[b] = row;
        }
    }

    /** The text, and the form that is made of it. */
    private static final class Text {
        private static final int MARK_SIZE = 3;
        private static final int MOST_DIGITS = 19;

        private final int[] units = new int[MOST_UNITS];
        private int size = 0;

        boolean add(int u) {
            if (size >= MOST_UNITS) {
                return false;
            }
            units[size] = u;
            size++;
            return true;
        }

        /** Byte i of the form, i being 0 or more; NONE behind its end. */
        int filledAt(int i, Solved solved) {
            int rest = i;
            int at = 0;
            while (at < size) {
                boolean isMark = isMark(at);
                int width = isMark ? widthOf(at, solved) : 1;
                if (rest < width) {
                    return isMark ? numberByte(at, width - 1 - rest, solved) : units[at];
                }
                rest -= width;
                at += isMark ? MARK_SIZE : 1;
            }
            return NONE;
        }

        private boolean isMark(int at) {
            return at + 2 < size && units[at] == '#'
                    && isKind(units[at + 1] - '0') && isYear(units[at + 2] - '0');
        }

        private long numberOf(int at, Solved solved) {
            return solved.wholeGrams(units[at + 1] - '0', units[at + 2] - '0');
        }

        private int widthOf(int at, Solved solved) {
            if (!solved.isThere()) {
                return 1;
            }
            long number = numberOf(at, solved);
            int width = 1;
            while (number >= 10 && width < MOST_DIGITS) {
                number /= 10;
                width++;
            }
            return width;
        }

        /** A byte of the number, counted from its last one on. */
        private int numberByte(int at, int fromLast, Solved solved) {
            if (!solved.isThere()) {
                return '-';
            }
            long number = numberOf(at, solved);
            for (int step = 0; step < fromLast; step++) {
                number /= 10;
            }
            return '0' + (int) (number % 10);
        }
    }
}
