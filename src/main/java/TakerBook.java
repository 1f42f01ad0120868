/**
 * The book of one who takes thieves and keeps them. Every call answers by a number; what is refused changes
 * nothing but finding() and findings(). All that an object needs is made by its constructor: no call makes
 * an object or an array, as all calls of a run share one room.
 */
public final class TakerBook {
    public static final int BAD = -1, FULL = -2, FINDING = -3, STATE = -4, SPENT = -6, NONE = -9;

    private static final int NOTHING = 1, BEYOND = 2, UNLIKE = 3, NOUGHT = 4, SIZE = 5;
    private static final int ROWS = 6, PLACES = 40, TEXTS = 4, BYTES = 60, KEPT = 3, MISSING = -1, BLANK = 32;
    private static final int THIEF = 0, RETURNED = 1, CLERK = 2, GANG = 3, LACE = 4, YOUNG = 5, KINDS = 6;
    private static final int WEEK = 0, GOODS = 1, CROSS = 2, HEAD = 3;
    private static final int MOST_THIEVES = 6, MOST_FIGURE = 9, MOST_CROSSES = 2, MOST_DEEDS = 40;
    private static final int MOST_WEEKS = 4, MOST_TURNS = 4, MOST_GOODS = 99, MOST_LOTS = 20, TWELVE = 12;
    /** How many sets of thieves there can be; a set is told by bits, so it is a number below this. */
    private static final int SETS = 64;
    private static final int LOT_HEAD = 2, LOT_CROSS = 3;
    private static final long LOT_BY = 48271, LOT_MODULO = 2147483647;

    private final int[][] rows = new int[ROWS][PLACES];
    private final int[] rowSizes = new int[ROWS];
    private final byte[][] texts = new byte[TEXTS][BYTES];
    private final int[] textSizes = new int[TEXTS];
    private final Reader reader = new Reader();
    private final Band band = new Band();
    private final Plans plans = new Plans();
    private final Marks marks = new Marks();
    private final Deeds deeds = new Deeds();
    private final Deeds[] keptDeeds = {new Deeds(), new Deeds(), new Deeds()};
    private final int[] found = new int[SIZE + 1];
    private int latestFinding;
    private int told;
    private long upperNumber;
    private long lowerNumber = 1;

    public TakerBook() {
        for (int r = 0; r < ROWS; r++) {
            rowSizes[r] = MISSING;
        }
        for (int t = 0; t < TEXTS; t++) {
            textSizes[t] = MISSING;
        }
        for (int k = 0; k < KEPT; k++) {
            keptDeeds[k].size = MISSING;
        }
    }

    // ---- 1 rows, texts, books

    public int row(int r, int n) {
        if (!isRow(r) || n > PLACES) {
            return BAD;
        }
        if (n < 0) {
            return refuse(SIZE);
        }
        rowSizes[r] = n;
        for (int i = 0; i < n; i++) {
            rows[r][i] = 0;
        }
        return n;
    }

    public int lay(int r, int i, int v) {
        int refused = refusedPlace(r, i);
        if (refused != 0) {
            return refused;
        }
        told = rows[r][i];
        rows[r][i] = v;
        return 1;
    }

    public int at(int r, int i) {
        int refused = refusedPlace(r, i);
        if (refused != 0) {
            return refused;
        }
        told = rows[r][i];
        return 1;
    }

    public int tear(int r) {
        int refused = refusedRow(r);
        if (refused != 0) {
            return refused;
        }
        rowSizes[r] = MISSING;
        return 1;
    }

    public int copy(int r, int i, int to, int j, int n) {
        if (!isRow(r) || !isRow(to)) {
            return BAD;
        }
        if (n < 0) {
            return refuse(SIZE);
        }
        if (rowSizes[r] < 0 || rowSizes[to] < 0) {
            return refuse(NOTHING);
        }
        if (!holds(rowSizes[r], i, n) || !holds(rowSizes[to], j, n)) {
            return refuse(BEYOND);
        }
        System.arraycopy(rows[r], i, rows[to], j, n);
        return 1;
    }

    public int mean(int r) {
        int refused = refusedRow(r);
        if (refused != 0) {
            return refused;
        }
        int n = rowSizes[r];
        if (n == 0) {
            return refuse(NOUGHT);
        }
        long total = 0;
        for (int i = 0; i < n; i++) {
            total += rows[r][i];
        }
        told = (int) (total / n);
        return 1;
    }

    public int text(int t, int n) {
        if (!isText(t) || n > BYTES) {
            return BAD;
        }
        if (n < 0) {
            return refuse(SIZE);
        }
        textSizes[t] = n;
        for (int i = 0; i < n; i++) {
            texts[t][i] = BLANK;
        }
        return n;
    }

    public int put(int t, int i, int v) {
        int refused = refusedText(t);
        if (refused != 0) {
            return refused;
        }
        if (i < 0 || i >= textSizes[t]) {
            return refuse(BEYOND);
        }
        int was = texts[t][i];
        texts[t][i] = (byte) v;
        return was + 1000;
    }

    public int fault(int t) {
        int refused = refusedText(t);
        return refused != 0 ? refused : reader.read(texts[t], textSizes[t]);
    }

    public int book(int t) {
        int refused = refusedText(t);
        if (refused != 0) {
            return refused;
        }
        if (reader.read(texts[t], textSizes[t]) != NONE) {
            return STATE;
        }
        band.load(reader);
        deeds.size = 0;
        for (int k = 0; k < KEPT; k++) {
            keptDeeds[k].size = MISSING;
        }
        return band.thieves;
    }

    public int thief(int i, int what) {
        if (!band.has(i) || what < 0 || what > 7) {
            return BAD;
        }
        told = band.tell(i, what);
        return 1;
    }

    public int mark(int i, int kind) {
        if (!band.has(i) || kind <= THIEF || kind >= KINDS) {
            return BAD;
        }
        return band.nature(band.kind[i]).isOf(kind) ? band.markOf(i, kind) : refuse(UNLIKE);
    }

    // ---- 2 deeds

    public int week() {
        if (!isOpen()) {
            return STATE;
        }
        if (deeds.size >= MOST_DEEDS) {
            return FULL;
        }
        enact(WEEK, 0);
        told = band.tried ? 1 : 0;
        return band.stock;
    }

    public int back(int n) {
        if (n < 1 || n > MOST_GOODS) {
            return BAD;
        }
        if (!isOpen()) {
            return STATE;
        }
        if (n > band.stock) {
            return SPENT;
        }
        if (deeds.size >= MOST_DEEDS) {
            return FULL;
        }
        enact(GOODS, n);
        return band.money;
    }

    public int cross(int i) {
        if (!band.has(i)) {
            return BAD;
        }
        if (band.tried || !band.canBeCrossed(i)) {
            return STATE;
        }
        if (deeds.size >= MOST_DEEDS) {
            return FULL;
        }
        enact(CROSS, i);
        return band.crosses[i];
    }

    public int give(int i) {
        if (!band.has(i)) {
            return BAD;
        }
        if (band.tried || !isIn(i, band.left)) {
            return STATE;
        }
        if (deeds.size >= MOST_DEEDS) {
            return FULL;
        }
        enact(HEAD, i);
        return band.money;
    }

    public int undo(int n) {
        if (n < 0 || n > deeds.size) {
            return BAD;
        }
        int undone = deeds.size - n;
        deeds.size = n;
        replay();
        return undone;
    }

    public int keep(int k) {
        if (k < 0 || k >= KEPT) {
            return BAD;
        }
        if (band.thieves == 0) {
            return STATE;
        }
        keptDeeds[k].become(deeds);
        return deeds.size;
    }

    public int on(int k) {
        if (k < 0 || k >= KEPT) {
            return BAD;
        }
        if (keptDeeds[k].size < 0) {
            return refuse(NOTHING);
        }
        // a new book lets the kept ones go, so these deeds are always of the book that is there
        deeds.become(keptDeeds[k]);
        replay();
        return deeds.size;
    }

    // ---- 3 who speaks

    public int speak() {
        if (band.thieves == 0) {
            return STATE;
        }
        told = band.wouldBeTried(band.left) ? 1 : 0;
        return band.talkers(band.left);
    }

    public int safe() {
        if (band.thieves == 0) {
            return STATE;
        }
        int fewest = MOST_THIEVES + 1;
        for (int given = 0; given < SETS; given++) {
            if (band.isOfLeft(given) && Integer.bitCount(given) < fewest
                    && !band.wouldBeTried(band.left & ~given)) {
                fewest = Integer.bitCount(given);
                told = given;
            }
        }
        return fewest;
    }

    public int silent() {
        if (band.thieves == 0) {
            return STATE;
        }
        marks.seekFewest(band);
        if (marks.fewest == NONE) {
            return NONE;
        }
        told = marks.withTwo;
        return marks.fewest;
    }

    public int heads(int n) {
        if (n < 0 || n > MOST_THIEVES) {
            return BAD;
        }
        if (band.thieves == 0) {
            return STATE;
        }
        if (Integer.bitCount(band.left) < n) {
            return NONE;
        }
        band.weigh();
        int most = -1;
        for (int set = 0; set < SETS; set++) {
            if (band.isOfLeft(set) && Integer.bitCount(set) == n && total(set, band.priceNow) > most) {
                most = total(set, band.priceNow);
                told = set;
            }
        }
        return most;
    }

    // ---- 4 plans

    public int best(int n, int r) {
        if (!isPlanSize(n) || !isRow(r)) {
            return BAD;
        }
        if (!isOpen()) {
            return STATE;
        }
        plans.goThrough(band, n);
        row(r, n);
        System.arraycopy(plans.first, 0, rows[r], 0, n);
        return plans.most;
    }

    public int ways(int n) {
        if (!isPlanSize(n)) {
            return BAD;
        }
        if (!isOpen()) {
            return STATE;
        }
        plans.goThrough(band, n);
        tellNumbers(plans.untried, 1);
        told = plans.untried == 0 ? 0 : plans.givenInAll;
        return 1;
    }

    public int brings(int r) {
        if (!isRow(r)) {
            return BAD;
        }
        if (!isOpen()) {
            return STATE;
        }
        if (rowSizes[r] < 0) {
            return refuse(NOTHING);
        }
        if (rowSizes[r] > MOST_WEEKS) {
            return refuse(SIZE);
        }
        if (!isPlan(rows[r], rowSizes[r])) {
            return refuse(UNLIKE);
        }
        int money = plans.follow(band, rows[r], rowSizes[r]);
        told = plans.trial;
        return money;
    }

    // ---- 5 whose goods

    public int fits(int v) {
        if (!isSum(v)) {
            return BAD;
        }
        if (band.thieves == 0) {
            return STATE;
        }
        band.weigh();
        int sets = 0;
        int first = NONE;
        for (int set = 0; set < SETS; set++) {
            if (isSuchSet(set, v)) {
                first = sets == 0 ? set : first;
                sets++;
            }
        }
        tellNumbers(sets, 1);
        told = first;
        return 1;
    }

    public int sure(int v) {
        int refused = refusedGoods(v);
        if (refused != 0) {
            return refused;
        }
        int inAll = band.left;
        int inAny = 0;
        for (int set = 0; set < SETS; set++) {
            if (isSuchSet(set, v)) {
                inAll &= set;
                inAny |= set;
            }
        }
        told = band.left & ~inAny;
        return inAll;
    }

    public int ask(int v) {
        int refused = refusedGoods(v);
        if (refused != 0) {
            return refused;
        }
        int whom = NONE;
        int least = SETS + 1;
        for (int i = 0; i < band.thieves; i++) {
            if (isIn(i, band.left) && greaterPart(i, v) < least) {
                least = greaterPart(i, v);
                whom = i;
            }
        }
        if (whom != NONE) {
            told = least;
        }
        return whom;
    }

    // ---- 6 when one spoke

    public int bold(int i, int r) {
        int refused = refusedTriples(i, r);
        if (refused != 0) {
            return refused;
        }
        int can = 0;
        for (int boldness = 0; boldness <= MOST_FIGURE; boldness++) {
            if (spokeSo(i, band.kind[i], boldness, r)) {
                can |= 1 << boldness;
            }
        }
        return can;
    }

    public int kinds(int i, int r) {
        int refused = refusedTriples(i, r);
        return refused != 0 ? refused : kindsBy(i, r);
    }

    public int test(int i, int r) {
        int refused = refusedTriples(i, r);
        if (refused != 0) {
            return refused;
        }
        int can = kindsBy(i, r);
        if (can == 0) {
            return NONE;
        }
        int least = KINDS + 1;
        int by = NONE;
        for (int fear = 0; fear <= MOST_FIGURE; fear++) {
            for (int crosses = 0; crosses <= MOST_CROSSES; crosses++) {
                int part = greaterPartOfKinds(i, can, fear, crosses);
                if (part < least) {
                    least = part;
                    by = 10 * fear + crosses;
                }
            }
        }
        told = least;
        return by;
    }

    // ---- 7 by turns, sums

    public int duel(int n) {
        if (n < 0 || n > MOST_TURNS) {
            return BAD;
        }
        return band.thieves == 0 ? STATE : marks.byTurns(band, n);
    }

    public int sum(int v) {
        if (!isSum(v)) {
            return BAD;
        }
        if (band.thieves == 0) {
            return STATE;
        }
        band.weigh();
        int fewest = NONE;
        int headsThen = 0;
        for (int set = 0; set < SETS; set++) {
            int goods = band.isOfLeft(set) ? goodsFor(v - total(set, band.priceNow)) : NONE;
            int paid = Integer.bitCount(set);
            if (goods != NONE && isBetter(goods + paid, paid, fewest, headsThen)) {
                fewest = goods + paid;
                headsThen = paid;
            }
        }
        if (fewest != NONE) {
            told = headsThen;
        }
        return fewest;
    }

    // ---- 8 chances, lots

    public int odds(int p) {
        if (!isChance(p)) {
            return BAD;
        }
        if (band.thieves == 0) {
            return STATE;
        }
        tellNumbers(band.untriedOfAll(p), band.allOf());
        return 1;
    }

    public int mid(int p) {
        if (!isChance(p)) {
            return BAD;
        }
        if (band.thieves == 0) {
            return STATE;
        }
        tellNumbers(band.untriedOfAll(p) * band.lootOfAll(band.left), band.allOf());
        return 1;
    }

    public int lots(int n, int seed) {
        if (n < 1 || n > MOST_LOTS || seed < 1 || seed >= LOT_MODULO) {
            return BAD;
        }
        if (!isOpen()) {
            return STATE;
        }
        if (deeds.size + n > MOST_DEEDS) {
            return FULL;
        }
        int ahead = deeds.size;
        long number = seed;
        for (int k = 0; k < n && !band.tried; k++) {
            number = number * LOT_BY % LOT_MODULO;
            int whom = (int) (number / 8 % band.thieves);
            enact(deedByLot((int) (number % 4), whom), whom);
        }
        return deeds.size - ahead;
    }

    // ---- 9 what is told

    public int asked() {
        return told;
    }

    public long upper() {
        return upperNumber;
    }

    public long lower() {
        return lowerNumber;
    }

    public int count(int what) {
        switch (what) {
            case 0: return band.thieves;
            case 1: return band.weeks;
            case 2: return deeds.size;
            case 3: return band.money;
            case 4: return band.stock;
            case 5: return band.left;
            case 6: return band.tried ? 1 : 0;
            case 7: return Integer.bitCount(band.gang);
            case 8: return present(rowSizes, ROWS);
            case 9: return present(textSizes, TEXTS);
            case 10: return keptBooks();
            default: return BAD;
        }
    }

    public int finding() {
        return latestFinding;
    }

    public int findings(int f) {
        return f < NOTHING || f > SIZE ? BAD : found[f];
    }

    public long digest() {
        long h = 17;
        for (int what = 0; what <= 10; what++) {
            h = 31 * h + count(what);
        }
        for (int i = 0; i < band.thieves; i++) {
            for (int what = 0; what <= 7; what++) {
                h = 31 * h + band.tell(i, what);
            }
        }
        for (int k = 0; k < KEPT; k++) {
            h = 31 * h + keptDeeds[k].size;
        }
        for (int r = 0; r < ROWS; r++) {
            h = 31 * h + rowSizes[r];
            for (int i = 0; i < rowSizes[r]; i++) {
                h = 31 * h + rows[r][i];
            }
        }
        for (int t = 0; t < TEXTS; t++) {
            h = 31 * h + textSizes[t];
            for (int i = 0; i < textSizes[t]; i++) {
                h = 31 * h + texts[t][i];
            }
        }
        return h;
    }

    // ---- what is refused: 0 is for what is not

    private int refuse(int f) {
        latestFinding = f;
        found[f]++;
        return FINDING;
    }

    private int refusedRow(int r) {
        if (!isRow(r)) {
            return BAD;
        }
        return rowSizes[r] < 0 ? refuse(NOTHING) : 0;
    }

    private int refusedPlace(int r, int i) {
        int refused = refusedRow(r);
        if (refused != 0) {
            return refused;
        }
        return i < 0 || i >= rowSizes[r] ? refuse(BEYOND) : 0;
    }

    private int refusedText(int t) {
        if (!isText(t)) {
            return BAD;
        }
        return textSizes[t] < 0 ? refuse(NOTHING) : 0;
    }

    /** Weighs the thieves, too: whether there is a set can't be told else. */
    private int refusedGoods(int v) {
        if (!isSum(v)) {
            return BAD;
        }
        if (band.thieves == 0) {
            return STATE;
        }
        band.weigh();
        for (int set = 0; set < SETS; set++) {
            if (isSuchSet(set, v)) {
                return 0;
            }
        }
        return refuse(NOUGHT);
    }

    private int refusedTriples(int i, int r) {
        if (!band.has(i) || !isRow(r)) {
            return BAD;
        }
        if (rowSizes[r] < 0) {
            return refuse(NOTHING);
        }
        if (rowSizes[r] % 3 != 0) {
            return refuse(SIZE);
        }
        return areTriples(rows[r], rowSizes[r]) ? 0 : refuse(UNLIKE);
    }

    private static boolean isRow(int r) {
        return r >= 0 && r < ROWS;
    }

    private static boolean isText(int t) {
        return t >= 0 && t < TEXTS;
    }

    private static boolean isPlanSize(int n) {
        return n >= 0 && n <= MOST_WEEKS;
    }

    private static boolean isSum(int v) {
        return v >= 0 && v <= MOST_GOODS;
    }

    private static boolean isChance(int p) {
        return p >= 0 && p <= TWELVE;
    }

    /** Whether deeds and plans go on: there are thieves, and he is not tried. */
    private boolean isOpen() {
        return band.thieves > 0 && !band.tried;
    }

    /** n is taken off the size, not added to the place, as that sum could run over. */
    private static boolean holds(int size, int from, int n) {
        return from >= 0 && from <= size && n <= size - from;
    }

    private static boolean areTriples(int[] row, int n) {
        for (int i = 0; i + 2 < n; i += 3) {
            if (row[i] < 0 || row[i] > MOST_FIGURE || row[i + 1] < 0 || row[i + 1] > MOST_CROSSES
                    || row[i + 2] < 0 || row[i + 2] > 1) {
                return false;
            }
        }
        return true;
    }

    private boolean isPlan(int[] row, int n) {
        int left = band.left;
        for (int w = 0; w < n; w++) {
            int whom = row[w];
            if (whom == NONE) {
                continue;
            }
            if (!band.has(whom) || !isIn(whom, left)) {
                return false;
            }
            left &= ~(1 << whom);
        }
        return true;
    }

    // ---- deeds done

    private void enact(int what, int n) {
        deeds.add(what, n);
        band.enact(what, n);
    }

    /** A lot that can't be is a week instead. */
    private int deedByLot(int lot, int whom) {
        if (lot == LOT_HEAD && isIn(whom, band.left)) {
            return HEAD;
        }
        return lot == LOT_CROSS && band.canBeCrossed(whom) ? CROSS : WEEK;
    }

    private void replay() {
        band.restart();
        for (int d = 0; d < deeds.size; d++) {
            band.enact(deeds.what[d], deeds.of[d]);
        }
    }

    // ---- sets

    private static boolean isIn(int i, int set) {
        return (set >> i & 1) == 1;
    }

    private static int total(int set, int[] of) {
        int total = 0;
        for (int i = 0; i < MOST_THIEVES; i++) {
            if (isIn(i, set)) {
                total += of[i];
            }
        }
        return total;
    }

    private boolean isSuchSet(int set, int v) {
        return band.isOfLeft(set) && total(set, band.lootNow) == v;
    }

    private int greaterPart(int i, int v) {
        int with = 0;
        int without = 0;
        for (int set = 0; set < SETS; set++) {
            if (isSuchSet(set, v)) {
                if (isIn(i, set)) {
                    with++;
                } else {
                    without++;
                }
            }
        }
        return Math.max(with, without);
    }

    // ---- when one spoke

    private boolean spokeSo(int i, int kind, int boldness, int r) {
        int others = band.others(i, band.left);
        for (int p = 0; p + 2 < rowSizes[r]; p += 3) {
            boolean spoke = rows[r][p + 2] == 1;
            if (band.nature(kind).talks(boldness, rows[r][p], rows[r][p + 1], others) != spoke) {
                return false;
            }
        }
        return true;
    }

    private int kindsBy(int i, int r) {
        int can = 0;
        for (int kind = 0; kind < KINDS; kind++) {
            if (spokeSo(i, kind, band.boldness[i], r)) {
                can |= 1 << kind;
            }
        }
        return can;
    }

    private int greaterPartOfKinds(int i, int can, int fear, int crosses) {
        int others = band.others(i, band.left);
        int talking = 0;
        for (int kind = 0; kind < KINDS; kind++) {
            if (isIn(kind, can) && band.nature(kind).talks(band.boldness[i], fear, crosses, others)) {
                talking++;
            }
        }
        return Math.max(talking, Integer.bitCount(can) - talking);
    }

    // ---- sums, numbers

    /** How many goods bring what is missing; NONE, if no number of them does. */
    private int goodsFor(int missing) {
        if (missing == 0) {
            return 0;
        }
        if (missing < 0 || band.fee == 0 || missing % band.fee != 0) {
            return NONE;
        }
        return missing / band.fee;
    }

    /** Whether n, with so many that more of are wanted, is to be taken before the fewest so far. */
    private static boolean isBetter(int n, int wanted, int fewest, int wantedThen) {
        return fewest == NONE || n < fewest || n == fewest && wanted > wantedThen;
    }

    private void tellNumbers(long above, long below) {
        long a = above;
        long b = below;
        for (int step = 0; step < 200 && b != 0; step++) {
            long rest = a % b;
            a = b;
            b = rest;
        }
        if (a > 0) {
            upperNumber = above / a;
            lowerNumber = below / a;
        }
    }

    private static int present(int[] sizes, int n) {
        int present = 0;
        for (int i = 0; i < n; i++) {
            if (sizes[i] >= 0) {
                present++;
            }
        }
        return present;
    }

    private int keptBooks() {
        int books = 0;
        for (int k = 0; k < KEPT; k++) {
            if (keptDeeds[k].size >= 0) {
                books++;
            }
        }
        return books;
    }

    // ---- kinds of thieves: what all are told by, and where each differs

    private static class Thief {
        boolean isOf(int kind) {
            return kind == THIEF;
        }

        int loot(int skill, int others) {
            return skill;
        }

        boolean talks(int boldness, int fear, int crosses, int others) {
            return boldness > fear + 2 * crosses;
        }

        int price(int bounty, int crosses) {
            return bounty + crosses;
        }
    }

    private static class Returned extends Thief {
        boolean isOf(int kind) {
            return kind == RETURNED || super.isOf(kind);
        }

        int loot(int skill, int others) {
            return skill + 1;
        }

        boolean talks(int boldness, int fear, int crosses, int others) {
            return false;
        }
    }

    private static final class Clerk extends Thief {
        boolean isOf(int kind) {
            return kind == CLERK || super.isOf(kind);
        }

        int loot(int skill, int others) {
            return skill / 2;
        }

        boolean talks(int boldness, int fear, int crosses, int others) {
            return crosses == 0 && super.talks(boldness, fear, crosses, others);
        }

        int price(int bounty, int crosses) {
            return super.price(bounty, crosses) / 2;
        }
    }

    private static class Gang extends Thief {
        boolean isOf(int kind) {
            return kind == GANG || super.isOf(kind);
        }

        int loot(int skill, int others) {
            return skill + others;
        }

        boolean talks(int boldness, int fear, int crosses, int others) {
            return others <= 1 && super.talks(boldness, fear, crosses, others);
        }
    }

    private static final class Lace extends Returned {
        boolean isOf(int kind) {
            return kind == LACE || super.isOf(kind);
        }

        boolean talks(int boldness, int fear, int crosses, int others) {
            return crosses == MOST_CROSSES;
        }
    }

    private static final class Young extends Gang {
        /** By how much more a young one's boldness counts. */
        static final int BOLDER = 2;

        boolean isOf(int kind) {
            return kind == YOUNG || super.isOf(kind);
        }

        int loot(int skill, int others) {
            return super.loot(skill, others) / 2;
        }

        boolean talks(int boldness, int fear, int crosses, int others) {
            return super.talks(boldness + BOLDER, fear, crosses, others);
        }

        int price(int bounty, int crosses) {
            return Math.max(0, super.price(bounty, crosses) - 1);
        }
    }

    /** Reads a book out of a text; what it read stays here until it reads again. */
    private static final class Reader {
        private static final char[] LETTERS = {'t', 'r', 'c', 'g', 'l', 'y'};
        private static final int[] LEAST_OF_BOOK = {0, 0, 0, 1}, MOST_OF_BOOK = {9, 9, 9, 6};
        private static final int[] LEAST_OF_THIEF = {0, 0, 0}, MOST_OF_THIEF = {9, 9, 2};

        final int[] kind = new int[MOST_THIEVES];
        final int[] ofBook = new int[4];
        final int[] ofThieves = new int[3 * MOST_THIEVES];
        int thieves;
        private int place;

        /** The fault; NONE: there is none, and what was read is a whole book. */
        int read(byte[] bytes, int size) {
            place = 0;
            thieves = 0;
            skipBlanks(bytes, size);
            if (place >= size || bytes[place] != 'k') {
                return place;
            }
            place++;
            if (!readFigures(bytes, size, ofBook, 0, LEAST_OF_BOOK, MOST_OF_BOOK)) {
                return place;
            }
            skipBlanks(bytes, size);
            for (int i = 0; i < MOST_THIEVES && place < size; i++) {
                if (!readThief(bytes, size)) {
                    return place;
                }
                skipBlanks(bytes, size);
            }
            return place < size || thieves == 0 ? place : NONE;
        }

        private void skipBlanks(byte[] bytes, int size) {
            while (place < size && bytes[place] == BLANK) {
                place++;
            }
        }

        private boolean readThief(byte[] bytes, int size) {
            int read = kindBy(bytes[place]);
            if (read == NONE) {
                return false;
            }
            place++;
            if (!readFigures(bytes, size, ofThieves, 3 * thieves, LEAST_OF_THIEF, MOST_OF_THIEF)) {
                return false;
            }
            kind[thieves] = read;
            thieves++;
            return true;
        }

        private static int kindBy(int letter) {
            for (int k = 0; k < KINDS; k++) {
                if (LETTERS[k] == letter) {
                    return k;
                }
            }
            return NONE;
        }

        private boolean readFigures(byte[] bytes, int size, int[] to, int from, int[] least, int[] most) {
            for (int f = 0; f < least.length; f++) {
                int figure = place < size ? bytes[place] - '0' : NONE;
                if (figure < least[f] || figure > most[f]) {
                    return false;
                }
                to[from + f] = figure;
                place++;
            }
            return true;
        }
    }

    /** Deeds by number, each with what it was done to (a thief, a number of goods). */
    private static final class Deeds {
        final int[] what = new int[MOST_DEEDS];
        final int[] of = new int[MOST_DEEDS];
        int size;

        void add(int deed, int n) {
            if (size >= 0 && size < MOST_DEEDS) {
                what[size] = deed;
                of[size] = n;
                size++;
            }
        }

        void become(Deeds other) {
            System.arraycopy(other.what, 0, what, 0, MOST_DEEDS);
            System.arraycopy(other.of, 0, of, 0, MOST_DEEDS);
            size = other.size;
        }
    }

    /** The book as it stands: the thieves, and what the deeds have made of them so far. */
    private static final class Band {
        private final Thief[] natures = {
            new Thief(), new Returned(), new Clerk(), new Gang(), new Lace(), new Young()};
        final int[] kind = new int[MOST_THIEVES];
        final int[] skill = new int[MOST_THIEVES];
        final int[] boldness = new int[MOST_THIEVES];
        final int[] firstCrosses = new int[MOST_THIEVES];
        final int[] crosses = new int[MOST_THIEVES];
        /** What each one steals, what each head brings, as it was when weigh() was called last. */
        final int[] lootNow = new int[MOST_THIEVES];
        final int[] priceNow = new int[MOST_THIEVES];
        int thieves, bounty, fee, fear, bench, gang;
        int left, weeks, money, stock;
        boolean tried;

        void load(Reader read) {
            thieves = read.thieves;
            bounty = read.ofBook[0];
            fee = read.ofBook[1];
            fear = read.ofBook[2];
            bench = read.ofBook[3];
            gang = 0;
            for (int i = 0; i < thieves; i++) {
                kind[i] = read.kind[i];
                skill[i] = read.ofThieves[3 * i];
                boldness[i] = read.ofThieves[3 * i + 1];
                firstCrosses[i] = read.ofThieves[3 * i + 2];
                if (nature(kind[i]).isOf(GANG)) {
                    gang |= 1 << i;
                }
            }
            restart();
        }

        void restart() {
            for (int i = 0; i < thieves; i++) {
                crosses[i] = firstCrosses[i];
            }
            left = (1 << thieves) - 1;
            weeks = 0;
            money = 0;
            stock = 0;
            tried = false;
        }

        boolean has(int i) {
            return i >= 0 && i < thieves;
        }

        boolean isOfLeft(int set) {
            return (set & ~left) == 0;
        }

        boolean canBeCrossed(int i) {
            return isIn(i, left) && crosses[i] < MOST_CROSSES;
        }

        Thief nature(int ofKind) {
            return natures[ofKind];
        }

        /** How many gang ones beside this one are among those told to be left. */
        int others(int i, int among) {
            return Integer.bitCount(among & gang & ~(1 << i));
        }

        int lootOf(int i, int among) {
            return nature(kind[i]).loot(skill[i], others(i, among));
        }

        int priceOf(int i) {
            return nature(kind[i]).price(bounty, crosses[i]);
        }

        boolean talksWith(int i, int crossesThen, int among) {
            return nature(kind[i]).talks(boldness[i], fear, crossesThen, others(i, among));
        }

        int lootOfAll(int among) {
            int loot = 0;
            for (int i = 0; i < thieves; i++) {
                loot += isIn(i, among) ? lootOf(i, among) : 0;
            }
            return loot;
        }

        int talkers(int among) {
            int set = 0;
            for (int i = 0; i < thieves; i++) {
                if (isIn(i, among) && nature(kind[i]).talks(boldness[i], fear, crosses[i], others(i, among))) {
                    set |= 1 << i;
                }
            }
            return set;
        }

        boolean wouldBeTried(int among) {
            return Integer.bitCount(talkers(among)) >= bench;
        }

        void weigh() {
            for (int i = 0; i < thieves; i++) {
                lootNow[i] = lootOf(i, left);
                priceNow[i] = priceOf(i);
            }
        }

        void enact(int what, int n) {
            switch (what) {
                case WEEK:
                    weeks++;
                    tried = Integer.bitCount(talkers(left)) >= bench;
                    stock += tried ? 0 : lootOfAll(left);
                    break;
                case GOODS:
                    stock -= n;
                    money += n * fee;
                    break;
                case CROSS:
                    crosses[n]++;
                    break;
                default:
                    money += priceOf(n);
                    left &= ~(1 << n);
                    break;
            }
        }

        int tell(int i, int what) {
            switch (what) {
                case 0: return kind[i];
                case 1: return skill[i];
                case 2: return boldness[i];
                case 3: return crosses[i];
                case 4: return lootOf(i, left);
                case 5: return talksWith(i, crosses[i], left) ? 1 : 0;
                case 6: return isIn(i, left) ? 1 : 0;
                default: return priceOf(i);
            }
        }

        int markOf(int i, int asKind) {
            switch (asKind) {
                case RETURNED: return Integer.bitCount(talkers(left) & ~(1 << i));
                case CLERK: return weeks + 1;
                case GANG: return others(i, left);
                case LACE: return MOST_CROSSES - crosses[i];
                default: return Math.max(0, fear + 1 - boldness[i] - Young.BOLDER);
            }
        }

        /** Of all that allOf() tells, in how many he is not tried, if each who speaks is silent in p of 12. */
        long untriedOfAll(int p) {
            int talking = Integer.bitCount(talkers(left));
            long untried = 0;
            for (int set = 0; set < 1 << talking; set++) {
                int kept = Integer.bitCount(set);
                if (talking - kept < bench) {
                    untried += power(p, kept) * power(TWELVE - p, talking - kept);
                }
            }
            return untried;
        }

        long allOf() {
            return power(TWELVE, Integer.bitCount(talkers(left)));
        }

        private static long power(int of, int n) {
            long power = 1;
            for (int i = 0; i < n; i++) {
                power *= of;
            }
            return power;
        }
    }

    /** Goes through plans; as crosses stay in them, who speaks and what is stolen hangs on who is left alone. */
    private static final class Plans {
        private final boolean[] trying = new boolean[SETS];
        private final int[] loot = new int[SETS];
        private final int[] price = new int[MOST_THIEVES];
        private final int[] plan = new int[MOST_WEEKS];
        final int[] first = new int[MOST_WEEKS];
        private int weeks, fee, leftAtFirst;
        int most, untried, givenInAll, trial;

        void goThrough(Band band, int n) {
            for (int set = 0; set < SETS; set++) {
                if (band.isOfLeft(set)) {
                    trying[set] = band.wouldBeTried(set);
                    loot[set] = band.lootOfAll(set);
                }
            }
            for (int i = 0; i < band.thieves; i++) {
                price[i] = band.priceOf(i);
            }
            fee = band.fee;
            leftAtFirst = band.left;
            weeks = n;
            most = -1;
            untried = 0;
            givenInAll = SETS - 1;
            goOnFrom(0, leftAtFirst, band.stock, 0);
        }

        private void goOnFrom(int w, int left, int stock, int money) {
            if (w >= weeks) {
                untried++;
                givenInAll &= leftAtFirst & ~left;
                end(w, money);
                return;
            }
            passWeek(w, NONE, left, stock, money);
            for (int i = 0; i < MOST_THIEVES; i++) {
                if (isIn(i, left)) {
                    passWeek(w, i, left & ~(1 << i), stock, money + price[i]);
                }
            }
        }

        private void passWeek(int w, int given, int left, int stock, int money) {
            plan[w] = given;
            if (trying[left]) {
                end(w + 1, money);
            } else {
                goOnFrom(w + 1, left, 0, money + fee * (stock + loot[left]));
            }
        }

        /** Plans come in their order, nobody first: so of those that bring like much the first one stays. */
        private void end(int passed, int money) {
            if (money <= most) {
                return;
            }
            most = money;
            for (int w = 0; w < weeks; w++) {
                first[w] = w < passed ? plan[w] : NONE;
            }
        }

        /** What a plan brings; trial is the week of it in which he is tried, or NONE. */
        int follow(Band band, int[] given, int n) {
            int left = band.left;
            int stock = band.stock;
            int money = 0;
            trial = NONE;
            for (int w = 0; w < n && trial == NONE; w++) {
                if (given[w] != NONE) {
                    money += band.priceOf(given[w]);
                    left &= ~(1 << given[w]);
                }
                if (band.wouldBeTried(left)) {
                    trial = w;
                } else {
                    money += band.fee * (stock + band.lootOfAll(left));
                    stock = 0;
                }
            }
            return money;
        }
    }

    /** Tries crosses; nobody is given up meanwhile, so one speaks or not by his own crosses alone. */
    private static final class Marks {
        private final int[][] talking = new int[MOST_THIEVES][MOST_CROSSES + 1];
        private final int[] crosses = new int[MOST_THIEVES];
        private int left, bench;
        int fewest, withTwo;

        private void begin(Band band) {
            left = band.left;
            bench = band.bench;
            for (int i = 0; i < band.thieves; i++) {
                crosses[i] = band.crosses[i];
                for (int c = 0; c <= MOST_CROSSES; c++) {
                    talking[i][c] = band.talksWith(i, c, left) ? 1 : 0;
                }
            }
        }

        void seekFewest(Band band) {
            begin(band);
            fewest = NONE;
            withTwo = 0;
            seekFrom(0, 0, 0, 0);
        }

        private void seekFrom(int i, int marked, int speaking, int twos) {
            if (i >= MOST_THIEVES) {
                if (speaking < bench && isBetter(marked, twos, fewest, withTwo)) {
                    fewest = marked;
                    withTwo = twos;
                }
            } else if (!isIn(i, left)) {
                seekFrom(i + 1, marked, speaking, twos);
            } else {
                for (int c = crosses[i]; c <= MOST_CROSSES; c++) {
                    seekFrom(i + 1, marked + c - crosses[i], speaking + talking[i][c],
                            c == MOST_CROSSES ? twos + 1 : twos);
                }
            }
        }

        int byTurns(Band band, int n) {
            begin(band);
            return turn(n, 1, Integer.bitCount(band.talkers(left)));
        }

        /** The step is 1 for him who marks and wants few, -1 for the other one. */
        private int turn(int turns, int step, int speaking) {
            if (turns <= 0) {
                return speaking;
            }
            int reached = turn(turns - 1, -step, speaking);
            for (int i = 0; i < MOST_THIEVES; i++) {
                int was = crosses[i];
                int then = was + step;
                if (isIn(i, left) && then >= 0 && then <= MOST_CROSSES) {
                    crosses[i] = then;
                    int speakingThen = turn(turns - 1, -step, speaking - talking[i][was] + talking[i][then]);
                    crosses[i] = was;
                    reached = step > 0 ? Math.min(reached, speakingThen) : Math.max(reached, speakingThen);
                }
            }
            return reached;
        }
    }
}
