/**
 * A shuffle desk: packs of cards, shuffles with a move or with lots, and exact chances.
 *
 * <p>The document's words (CARD, PACK, MOVE, ROUND, ..) are used as it tells them. All rows are made
 * in the constructor and used again, because everything that a run of calls makes is counted.
 */
public final class ShuffleDesk {
    public static final int NONE = -1, BAD = -2, STATE = -3, FULL = -4;
    public static final long NO = -4611686018427387904L;

    private static final int NOTHING = -11, OUTSIDE = -12, OTHER_SORT = -13, BELOW_ZERO = -14;
    private static final int MOVE = 0, PERFECT = 1, DEAL = 2, RIFFLE = 3, TOP = 4, KINDS = 5;
    private static final int LAYS = 0, CUTS = 1, TURNS = 2, ACTS = 3;
    private static final int BYTES = 0, SHORTS = 1, INTS = 2;

    private static final int FIRST_CARDS = 4, MOST_CARDS = 10, MOST_PACKS = 12, MOST_SHUFFLES = 10;
    private static final int MOST_HEAPS = 10, MOST_TRAYS = 4, MOST_ITEMS = 40, MOST_BODIES = 40;
    private static final int PLAIN_HEAPS = 2;
    private static final int MOST_TIMES = 6, MOST_ROWS = 10, MOST_TOP_CARDS = 6;

    /** Behind four PERFECT ones a CARD can lie at any of 16 following places, so at any of 10. */
    private static final int LONGEST_WAY = 4;

    /** The lot's bits come round after 2 to the 20 steps and have been 0 by then. */
    private static final int MOST_DRAWS = 1 << 20;

    /** Euclid's way needs fewer steps than this for any two longs. */
    private static final int MOST_DIVISIONS = 100;

    /** TOP's turns goes eight bodies deep, and no act goes deeper. */
    private static final int DEEPEST = 20;

    private static final int[] FACTORIALS = {
        1, 1, 2, 6, 24, 120, 720, 5040, 40320, 362880, 3628800
    };

    /**
     * GROUP by half the CARDS. There are five such numbers, and a walk over all orders for each call
     * would be dear; the tests do that walk and compare.
     */
    private static final int[] GROUPS = {0, 2, 8, 24, 24, 1920};

    /** The KIND above each KIND. */
    private static final int[] ABOVE = {NONE, MOVE, MOVE, DEAL, RIFFLE};

    /** The body of each KIND (a line each) for each act, 0 where it has none. */
    private static final int[] BODIES = {
        10, 11, 12,
        0, 20, 0,
        30, 0, 31,
        0, 40, 0,
        50, 0, 51
    };

    private final int[][] packs = new int[MOST_PACKS][MOST_CARDS];
    private final Shuffle[] shuffles = new Shuffle[MOST_SHUFFLES];
    private final Tray[] trays = new Tray[MOST_TRAYS];
    private final Acts acts = new Acts();
    private int cards = FIRST_CARDS;
    private int packCount = 0;
    private int shuffleCount = 0;
    private int drawSeed = 0;

    private final int[] before = new int[MOST_CARDS];
    private final int[] places = new int[MOST_CARDS];
    private final int[] lotRow = new int[MOST_CARDS];
    private final int[] nextOfHeap = new int[MOST_HEAPS];
    private final long[] levelCounts = new long[MOST_CARDS];
    private final long[] blocks = new long[MOST_CARDS + 1];

    public ShuffleDesk() {
        for (int i = 0; i < MOST_SHUFFLES; i++) {
            shuffles[i] = new Shuffle();
        }
        for (int i = 0; i < MOST_TRAYS; i++) {
            trays[i] = new Tray();
        }
    }

    // ---- the DESK and its PACKS

    public int begin(int n) {
        if (n < 1 || n > MOST_CARDS) {
            return BAD;
        }
        cards = n;
        packCount = 0;
        shuffleCount = 0;
        return 1;
    }

    public int pack() {
        return ranked(0);
    }

    public int ranked(int rank) {
        if (rank < 0 || rank >= FACTORIALS[cards]) {
            return BAD;
        }
        if (packCount >= MOST_PACKS) {
            return FULL;
        }
        Orders.setByRank(packs[packCount], cards, rank);
        return packCount++;
    }

    public int told(int tray, int sort, int i) {
        if (!isTray(tray) || !isSort(sort)) {
            return BAD;
        }
        Tray row = trays[tray];
        if (!row.isMissing() && row.sort != sort) {
            return OTHER_SORT;
        }
        if (row.isMissing()) {
            return NOTHING;
        }
        if (!row.holds(i, cards)) {
            return OUTSIDE;
        }
        if (!Orders.isOrder(row.items, i, cards)) {
            return STATE;
        }
        if (packCount >= MOST_PACKS) {
            return FULL;
        }
        System.arraycopy(row.items, i, packs[packCount], 0, cards);
        return packCount++;
    }

    public int card(int pack, int place) {
        return isPack(pack) && isPlace(place) ? packs[pack][place] : BAD;
    }

    public int packTold(int pack, int what) {
        if (!isPack(pack)) {
            return BAD;
        }
        Orders.setBack(packs[pack], places, cards);
        switch (what) {
            case 0:
                return Orders.rankOf(packs[pack], cards);
            case 1:
                return Orders.runsOf(places, cards);
            case 2:
                return places[0];
            default:
                return BAD;
        }
    }

    // ---- the making of SHUFFLES

    public int move(int pack) {
        if (!isPack(pack)) {
            return BAD;
        }
        if (shuffleCount >= MOST_SHUFFLES) {
            return FULL;
        }
        System.arraycopy(packs[pack], 0, shuffles[shuffleCount].from, 0, cards);
        return addShuffle(MOVE, PLAIN_HEAPS);
    }

    public int perfect(int way) {
        if (way != 0 && way != 1) {
            return BAD;
        }
        if (isOdd()) {
            return STATE;
        }
        if (shuffleCount >= MOST_SHUFFLES) {
            return FULL;
        }
        int[] from = shuffles[shuffleCount].from;
        for (int i = 0; i < cards; i++) {
            from[Ways.carried(i, way, cards)] = i;
        }
        return addShuffle(PERFECT, PLAIN_HEAPS);
    }

    public int deal(int heaps) {
        if (heaps < 1 || heaps > cards) {
            return BAD;
        }
        if (shuffleCount >= MOST_SHUFFLES) {
            return FULL;
        }
        Orders.setDealt(shuffles[shuffleCount].from, cards, heaps);
        return addShuffle(DEAL, heaps);
    }

    public int riffle(int heaps) {
        if (heaps < 1 || heaps > MOST_HEAPS) {
            return BAD;
        }
        return shuffleCount >= MOST_SHUFFLES ? FULL : addShuffle(RIFFLE, heaps);
    }

    public int top() {
        return shuffleCount >= MOST_SHUFFLES ? FULL : addShuffle(TOP, cards);
    }

    public int behind(int first, int second) {
        if (!isShuffle(first) || !isShuffle(second)) {
            return BAD;
        }
        if (!shuffles[first].hasMove() || !shuffles[second].hasMove()) {
            return STATE;
        }
        if (shuffleCount >= MOST_SHUFFLES) {
            return FULL;
        }
        Orders.setThrough(shuffles[first].from, shuffles[second].from, shuffles[shuffleCount].from, cards);
        return addShuffle(MOVE, PLAIN_HEAPS);
    }

    public int back(int shuffle) {
        if (!isShuffle(shuffle)) {
            return BAD;
        }
        if (!shuffles[shuffle].hasMove()) {
            return STATE;
        }
        if (shuffleCount >= MOST_SHUFFLES) {
            return FULL;
        }
        Orders.setBack(shuffles[shuffle].from, shuffles[shuffleCount].from, cards);
        return addShuffle(MOVE, PLAIN_HEAPS);
    }

    // ---- what SHUFFLES are

    public int moves(int shuffle, int i) {
        if (!isShuffle(shuffle) || !isPlace(i)) {
            return BAD;
        }
        return shuffles[shuffle].hasMove() ? shuffles[shuffle].from[i] : NONE;
    }

    public int shuffleTold(int shuffle, int what) {
        if (!isShuffle(shuffle)) {
            return BAD;
        }
        Shuffle s = shuffles[shuffle];
        switch (what) {
            case 0:
                return s.kind;
            case 1:
                return s.heaps;
            case 2:
                return s.hasMove() ? Rounds.howMany(s.from, cards) : NONE;
            case 3:
                return s.hasMove() ? Rounds.leastPower(s.from, cards) : NONE;
            default:
                return BAD;
        }
    }

    public int power(int shuffle, long e, int i) {
        if (!isShuffle(shuffle) || !isPlace(i) || e < 0) {
            return BAD;
        }
        return shuffles[shuffle].hasMove() ? Rounds.along(shuffles[shuffle].from, cards, i, e) : NONE;
    }

    public int taken(int shuffle, int k) {
        if (k < 0 || k >= KINDS) {
            return BAD;
        }
        if (!isShuffle(shuffle)) {
            return NOTHING;
        }
        return shuffles[shuffle].isUnder(k) ? shuffles[shuffle].heaps : OTHER_SORT;
    }

    // ---- SHUFFLES done with PACKS

    public int does(int shuffle, int pack) {
        if (!isShuffle(shuffle) || !isPack(pack)) {
            return BAD;
        }
        if (!shuffles[shuffle].hasMove()) {
            return STATE;
        }
        System.arraycopy(packs[pack], 0, before, 0, cards);
        Orders.setThrough(before, shuffles[shuffle].from, packs[pack], cards);
        return 1;
    }

    public int lots(int shuffle, int pack, long lots) {
        if (!isShuffle(shuffle) || !isPack(pack)) {
            return BAD;
        }
        Shuffle s = shuffles[shuffle];
        if (s.hasMove()) {
            return STATE;
        }
        if (lots < 0 || lots >= Numbers.raised(s.heaps, lotsOf(s))) {
            return BAD;
        }
        long rest = lots;
        for (int i = 0; i < lotsOf(s); i++) {
            lotRow[i] = (int) (rest % s.heaps);
            rest /= s.heaps;
        }
        layByLots(s, packs[pack]);
        return 1;
    }

    public long draw(int shuffle, int pack) {
        if (!isShuffle(shuffle) || !isPack(pack) || shuffles[shuffle].hasMove()) {
            return NO;
        }
        Shuffle s = shuffles[shuffle];
        long asOne = 0;
        long worth = 1;
        for (int i = 0; i < lotsOf(s); i++) {
            lotRow[i] = drawnLot(s.heaps);
            asOne += lotRow[i] * worth;
            worth *= s.heaps;
        }
        layByLots(s, packs[pack]);
        return asOne;
    }

    public int seed(int s) {
        int was = drawSeed;
        drawSeed = s;
        return was;
    }

    // ---- CHANCES

    public long chance(int shuffle, int k, int pack, int what) {
        if (!isShuffle(shuffle) || !isPack(pack) || !isPart(what) || !hasChances(shuffles[shuffle], k)) {
            return NO;
        }
        Shuffle s = shuffles[shuffle];
        return Numbers.part(rowsToLevel(s, k, levelOf(s, packs[pack])), allRows(s, k), what);
    }

    public long place(int shuffle, int i, int j, int what) {
        if (!isShuffle(shuffle) || !isPlace(i) || !isPlace(j) || !isPart(what)) {
            return NO;
        }
        Shuffle s = shuffles[shuffle];
        if (s.hasMove()) {
            return NO;
        }
        if (s.kind == TOP) {
            return Numbers.part(topLotsToPlace(i, j), cards, what);
        }
        return Numbers.part(riffleRowsToPlace(s.heaps, i, j), Numbers.raised(s.heaps, cards), what);
    }

    public long far(int shuffle, int k, int what) {
        if (!isShuffle(shuffle) || !isPart(what) || !hasChances(shuffles[shuffle], k)) {
            return NO;
        }
        Shuffle s = shuffles[shuffle];
        long rows = allRows(s, k);
        long orders = FACTORIALS[cards];
        long sum = 0;
        countLevels(s);
        for (int level = 0; level < cards; level++) {
            sum += levelCounts[level] * Math.abs(rowsToLevel(s, k, level) * orders - rows);
        }
        return Numbers.part(sum, 2 * rows * orders, what);
    }

    public long unlike(int shuffle, int k, int what) {
        if (!isShuffle(shuffle) || !isPart(what) || !hasChances(shuffles[shuffle], k)) {
            return NO;
        }
        if (shuffles[shuffle].kind != RIFFLE) {
            return NO;
        }
        long rowsOfOne = Numbers.raised(shuffles[shuffle].heaps, k);
        long unlike = 1;
        for (int i = 0; i < cards; i++) {
            unlike *= Math.max(0, rowsOfOne - i);
        }
        return Numbers.part(unlike, Numbers.raised(rowsOfOne, cards), what);
    }

    public long runs(int r) {
        if (r < 1 || r > cards) {
            return NO;
        }
        Numbers.setRunCounts(levelCounts, cards);
        return levelCounts[r - 1];
    }

    // ---- PERFECT ones in a row

    public int leads(int i, int j) {
        if (!isPlace(i) || !isPlace(j)) {
            return BAD;
        }
        return isOdd() ? STATE : Ways.lengthOf(Ways.shortest(i, j, cards));
    }

    public int lead(int i, int j, int k) {
        if (!isPlace(i) || !isPlace(j)) {
            return BAD;
        }
        if (isOdd()) {
            return STATE;
        }
        int way = Ways.shortest(i, j, cards);
        int length = Ways.lengthOf(way);
        return k < 0 || k >= length ? NONE : way >> (length - 1 - k) & 1;
    }

    public int group() {
        return isOdd() ? STATE : GROUPS[cards / 2];
    }

    // ---- ACTS

    public int act(int shuffle, int act, int x) {
        acts.forget();
        if (!isShuffle(shuffle) || act < 0 || act >= ACTS) {
            return 0;
        }
        return acts.answer(shuffles[shuffle], shuffle, act, x);
    }

    public int trace(int i) {
        return i < 0 || i >= MOST_BODIES || i >= acts.ran ? NONE : acts.kept[i];
    }

    public int count(int what) {
        switch (what) {
            case 0:
                return cards;
            case 1:
                return packCount;
            case 2:
                return shuffleCount;
            case 3:
                return acts.ran;
            default:
                return BAD;
        }
    }

    // ---- TRAYS

    public int tray(int tray, int sort, int n) {
        if (!isTray(tray) || (sort != NONE && !isSort(sort))) {
            return BAD;
        }
        if (sort == NONE) {
            trays[tray].clear(NONE, 0);
            return 1;
        }
        if (n > MOST_ITEMS) {
            return BAD;
        }
        if (n < 0) {
            return BELOW_ZERO;
        }
        trays[tray].clear(sort, n);
        return 1;
    }

    public int cell(int tray, int i, int v) {
        if (!isTray(tray)) {
            return BAD;
        }
        if (trays[tray].isMissing()) {
            return NOTHING;
        }
        if (!trays[tray].holds(i, 1)) {
            return OUTSIDE;
        }
        trays[tray].items[i] = trays[tray].narrowed(v);
        return 1;
    }

    public int copy(int tray, int i, int other, int j, int n) {
        if (!isTray(tray) || !isTray(other)) {
            return BAD;
        }
        Tray source = trays[tray];
        Tray target = trays[other];
        if (source.isMissing() || target.isMissing()) {
            return NOTHING;
        }
        if (source.sort != target.sort) {
            return OTHER_SORT;
        }
        if (!source.holds(i, n) || !target.holds(j, n)) {
            return OUTSIDE;
        }
        System.arraycopy(source.items, i, target.items, j, n);
        return n;
    }

    // ---- what numbers stand for something

    private boolean isPack(int number) {
        return number >= 0 && number < packCount;
    }

    private boolean isShuffle(int number) {
        return number >= 0 && number < shuffleCount;
    }

    private boolean isPlace(int number) {
        return number >= 0 && number < cards;
    }

    private boolean isOdd() {
        return (cards & 1) != 0;
    }

    private static boolean isTray(int number) {
        return number >= 0 && number < MOST_TRAYS;
    }

    private static boolean isSort(int number) {
        return number >= BYTES && number <= INTS;
    }

    private static boolean isPart(int number) {
        return number == 0 || number == 1;
    }

    /** The caller has seen that there is room and has filled the MOVE's row, if the KIND has one. */
    private int addShuffle(int kind, int heaps) {
        shuffles[shuffleCount].kind = kind;
        shuffles[shuffleCount].heaps = heaps;
        return shuffleCount++;
    }

    // ---- lots

    private int lotsOf(Shuffle s) {
        return s.kind == TOP ? 1 : cards;
    }

    private int drawnLot(int lots) {
        for (int draws = 0; draws < MOST_DRAWS; draws++) {
            drawSeed = drawSeed * 1103515245 + 12345;
            int lot = (drawSeed >>> 16) & 15;
            if (lot < lots) {
                return lot;
            }
        }
        return 0;
    }

    private void layByLots(Shuffle s, int[] order) {
        if (s.kind == TOP) {
            layTop(order, lotRow[0]);
        } else {
            layRiffle(order, s.heaps);
        }
    }

    private static void layTop(int[] order, int place) {
        int card = order[0];
        for (int i = 0; i < place; i++) {
            order[i] = order[i + 1];
        }
        order[place] = card;
    }

    private void layRiffle(int[] order, int heaps) {
        for (int heap = 0; heap < heaps; heap++) {
            nextOfHeap[heap] = 0;
        }
        for (int i = 0; i < cards; i++) {
            before[i] = order[i];
            nextOfHeap[lotRow[i]]++;
        }
        int start = 0;
        for (int heap = 0; heap < heaps; heap++) {
            int size = nextOfHeap[heap];
            nextOfHeap[heap] = start;
            start += size;
        }
        for (int i = 0; i < cards; i++) {
            order[i] = before[nextOfHeap[lotRow[i]]++];
        }
    }

    // ---- chances: the LEVEL of an order (0 .. n - 1) is all that its CHANCE depends on

    private boolean hasChances(Shuffle s, int k) {
        if (s.hasMove() || k < 0 || k > MOST_TIMES) {
            return false;
        }
        return s.kind == TOP ? cards <= MOST_TOP_CARDS : Numbers.raised(s.heaps, k) <= MOST_ROWS;
    }

    /** How many rows of lots there are for k times, all alike likely. */
    private long allRows(Shuffle s, int k) {
        return Numbers.raised(s.heaps, k * lotsOf(s));
    }

    private int levelOf(Shuffle s, int[] order) {
        Orders.setBack(order, places, cards);
        return s.kind == TOP ? Orders.looseOf(places, cards) : Orders.runsOf(places, cards) - 1;
    }

    private void countLevels(Shuffle s) {
        if (s.kind == TOP) {
            Numbers.setLooseCounts(levelCounts, cards);
        } else {
            Numbers.setRunCounts(levelCounts, cards);
        }
    }

    /**
     * How many rows of lots of k times lead to one order of a level. RIFFLES of a heaps done k times
     * are one RIFFLE of a to the k heaps, whose rows are the ways to cut the first order so that each
     * end of a RUN is cut. TOPS done k times take up j CARDS in so many ways as k things make j blocks,
     * and then lay them anywhere: each order whose CARDS from j on lie in their first order comes once.
     */
    private long rowsToLevel(Shuffle s, int k, int level) {
        if (s.kind != TOP) {
            return Numbers.choices((int) Numbers.raised(s.heaps, k) + cards - 1 - level, cards);
        }
        Numbers.setBlocks(blocks, cards, k);
        long rows = 0;
        for (int taken = level; taken <= cards; taken++) {
            rows += blocks[taken];
        }
        return rows;
    }

    private int topLotsToPlace(int i, int j) {
        if (i == 0) {
            return 1;
        }
        if (j == i) {
            return i;
        }
        return j == i - 1 ? cards - i : 0;
    }

    /**
     * The CARD at place i comes to place j by the lot h there, if i CARDS are ahead of it in the heaps
     * up to h: those with lots up to h at the places ahead of j, and below h at the places behind j.
     */
    private long riffleRowsToPlace(int heaps, int i, int j) {
        int behindJ = cards - 1 - j;
        long rows = 0;
        for (int h = 0; h < heaps; h++) {
            for (int early = Math.max(0, i - behindJ); early <= Math.min(i, j); early++) {
                rows += Numbers.splits(j, early, h + 1, heaps - h - 1)
                        * Numbers.splits(behindJ, i - early, h, heaps - h);
            }
        }
        return rows;
    }

    // ---- classes

    /** One of the SHUFFLES; its row is used only if its KIND has a MOVE. */
    private static final class Shuffle {
        final int[] from = new int[MOST_CARDS];
        int kind = MOVE;
        int heaps = PLAIN_HEAPS;

        boolean hasMove() {
            return kind != RIFFLE && kind != TOP;
        }

        boolean isUnder(int other) {
            int at = kind;
            for (int steps = 0; steps < KINDS && at >= 0 && at != other; steps++) {
                at = ABOVE[at];
            }
            return at == other;
        }
    }

    /** A row of numbers that may be missing; ints hold the items of every sort. */
    private static final class Tray {
        final int[] items = new int[MOST_ITEMS];
        int sort = NONE;
        int size = 0;

        boolean isMissing() {
            return sort == NONE;
        }

        void clear(int newSort, int newSize) {
            sort = newSort;
            size = newSize;
            for (int i = 0; i < MOST_ITEMS; i++) {
                items[i] = 0;
            }
        }

        /** Written with a difference, because a sum could wrap. */
        boolean holds(int i, int n) {
            return i >= 0 && n >= 0 && i <= size - n;
        }

        int narrowed(int v) {
            if (sort == BYTES) {
                return (byte) v;
            }
            return sort == SHORTS ? (short) v : v;
        }
    }

    /** The ACTS with THE TRACE of the latest one. */
    private static final class Acts {
        final int[] kept = new int[MOST_BODIES];
        int ran = 0;
        private int kind = MOVE;
        private int number = 0;
        private int heaps = PLAIN_HEAPS;

        void forget() {
            ran = 0;
        }

        int answer(Shuffle s, int itsNumber, int act, int x) {
            kind = s.kind;
            number = itsNumber;
            heaps = s.heaps;
            return run(kind, act, x, 0);
        }

        /** Runs the body that a KIND has for an act, or the next KIND above that has one. */
        private int run(int from, int act, int x, int depth) {
            int body = bodyOf(from, act);
            if (body == 0 || depth > DEEPEST) {
                return 0;
            }
            note(body);
            int deeper = depth + 1;
            switch (body) {
                case 10:
                    return x + number;
                case 11:
                    return run(kind, LAYS, x, deeper) * heaps;
                case 12:
                    return run(kind, CUTS, x, deeper) ^ run(kind, LAYS, x + 1, deeper);
                case 20:
                    return run(ABOVE[PERFECT], CUTS, x, deeper) + 1;
                case 30:
                    return run(ABOVE[DEAL], LAYS, x, deeper) - heaps;
                case 31:
                    return run(ABOVE[DEAL], TURNS, x, deeper) * 2;
                case 40:
                    return run(ABOVE[RIFFLE], CUTS, x, deeper) + run(ABOVE[RIFFLE], LAYS, x, deeper);
                case 50:
                    return run(ABOVE[TOP], LAYS, x * 3, deeper);
                case 51:
                    return run(kind, CUTS, x, deeper) - run(ABOVE[TOP], TURNS, x, deeper);
                default:
                    return 0;
            }
        }

        private static int bodyOf(int from, int act) {
            int at = from;
            for (int steps = 0; steps < KINDS && at >= 0; steps++) {
                int body = BODIES[at * ACTS + act];
                if (body != 0) {
                    return body;
                }
                at = ABOVE[at];
            }
            return 0;
        }

        private void note(int body) {
            if (ran < MOST_BODIES) {
                kept[ran] = body;
            }
            ran++;
        }
    }

    /** Orders of 0 .. n - 1 in rows that may be longer. */
    private static final class Orders {
        static boolean isOrder(int[] row, int start, int n) {
            int seen = 0;
            for (int i = start; i < start + n; i++) {
                if (row[i] < 0 || row[i] >= n || (seen >> row[i] & 1) != 0) {
                    return false;
                }
                seen |= 1 << row[i];
            }
            return true;
        }

        static int rankOf(int[] order, int n) {
            int rank = 0;
            for (int i = 0; i < n; i++) {
                int lower = 0;
                for (int later = i + 1; later < n; later++) {
                    if (order[later] < order[i]) {
                        lower++;
                    }
                }
                rank += lower * FACTORIALS[n - 1 - i];
            }
            return rank;
        }

        static void setByRank(int[] order, int n, int rank) {
            int used = 0;
            int rest = rank;
            for (int i = 0; i < n; i++) {
                int behind = FACTORIALS[n - 1 - i];
                int card = unused(used, n, rest / behind);
                used |= 1 << card;
                order[i] = card;
                rest %= behind;
            }
        }

        private static int unused(int used, int n, int lower) {
            int left = lower;
            for (int card = 0; card < n; card++) {
                if ((used >> card & 1) == 0) {
                    if (left == 0) {
                        return card;
                    }
                    left--;
                }
            }
            return 0;
        }

        static void setBack(int[] order, int[] back, int n) {
            for (int i = 0; i < n; i++) {
                back[order[i]] = i;
            }
        }

        static void setThrough(int[] order, int[] from, int[] made, int n) {
            for (int i = 0; i < n; i++) {
                made[i] = order[from[i]];
            }
        }

        static void setDealt(int[] from, int n, int heaps) {
            int place = 0;
            for (int heap = 0; heap < heaps; heap++) {
                int last = heap + (n - 1 - heap) / heaps * heaps;
                for (int card = last; card >= heap && place < n; card -= heaps) {
                    from[place] = card;
                    place++;
                }
            }
        }

        static int runsOf(int[] places, int n) {
            int runs = 1;
            for (int card = 1; card < n; card++) {
                if (places[card] < places[card - 1]) {
                    runs++;
                }
            }
            return runs;
        }

        /** The lowest CARD from which on all lie in their first order. */
        static int looseOf(int[] places, int n) {
            int loose = n - 1;
            while (loose > 0 && places[loose - 1] < places[loose]) {
                loose--;
            }
            return loose;
        }
    }

    /** The ROUNDS of a MOVE. */
    private static final class Rounds {
        static int lengthFrom(int[] from, int n, int start) {
            int length = 1;
            int at = from[start];
            while (length < n && at != start) {
                at = from[at];
                length++;
            }
            return length;
        }

        /** Each ROUND is counted at its lowest place. */
        static int howMany(int[] from, int n) {
            int rounds = 0;
            for (int start = 0; start < n; start++) {
                int at = from[start];
                for (int steps = 0; steps < n && at > start; steps++) {
                    at = from[at];
                }
                if (at == start) {
                    rounds++;
                }
            }
            return rounds;
        }

        static int leastPower(int[] from, int n) {
            int least = 1;
            for (int start = 0; start < n; start++) {
                int length = lengthFrom(from, n, start);
                least *= length / (int) Numbers.divisor(least, length);
            }
            return least;
        }

        static int along(int[] from, int n, int start, long e) {
            int steps = (int) (e % lengthFrom(from, n, start));
            int at = start;
            for (int i = 0; i < steps; i++) {
                at = from[at];
            }
            return at;
        }
    }

    /** Ways as numbers: a 1 and behind it, from the highest bit down, the PERFECT ones. */
    private static final class Ways {
        static int carried(int place, int way, int n) {
            int half = n / 2;
            return place < half ? 2 * place + way : 2 * (place - half) + 1 - way;
        }

        /** Numbers with more bits are longer ways, and of as many bits the lower is the one asked for. */
        static int shortest(int i, int j, int n) {
            for (int way = 1; way < 2 << LONGEST_WAY; way++) {
                if (end(i, way, n) == j) {
                    return way;
                }
            }
            return 1;
        }

        private static int end(int start, int way, int n) {
            int at = start;
            for (int bit = lengthOf(way) - 1; bit >= 0; bit--) {
                at = carried(at, way >> bit & 1, n);
            }
            return at;
        }

        static int lengthOf(int way) {
            return 31 - Integer.numberOfLeadingZeros(way);
        }
    }

    /** Counting; every number here stays far below 2 to the 63 for at most 10 CARDS and 10 heaps. */
    private static final class Numbers {
        static long raised(long base, int times) {
            long product = 1;
            for (int i = 0; i < times; i++) {
                product *= base;
            }
            return product;
        }

        static long choices(int of, int taken) {
            if (taken > of) {
                return 0;
            }
            long product = 1;
            for (int i = 1; i <= taken; i++) {
                product = product * (of - taken + i) / i;
            }
            return product;
        }

        /** Rows of lots with so many of one sort, which has ones lots, and the rest of another. */
        static long splits(int length, int ofOne, int ones, int others) {
            return choices(length, ofOne) * raised(ones, ofOne) * raised(others, length - ofOne);
        }

        /** The greatest one of both, and 1 for two zeros, so that it may always divide. */
        static long divisor(long one, long other) {
            long high = one;
            long low = other;
            for (int steps = 0; steps < MOST_DIVISIONS && low != 0; steps++) {
                long rest = high % low;
                high = low;
                low = rest;
            }
            return Math.max(1, high);
        }

        /** Below the line stands a number above 0. */
        static long part(long above, long below, int what) {
            long shared = divisor(above, below);
            return (what == 0 ? above : below) / shared;
        }

        /** At r - 1 the orders with r RUNS: the last CARD, put in anywhere, keeps or opens a RUN. */
        static void setRunCounts(long[] counts, int n) {
            counts[0] = 1;
            for (int size = 2; size <= n; size++) {
                counts[size - 1] = 0;
                for (int at = size - 1; at > 0; at--) {
                    counts[at] = (at + 1) * counts[at] + (size - at) * counts[at - 1];
                }
            }
        }

        /** At j the orders whose lowest CARD from which on all lie in their first order is j. */
        static void setLooseCounts(long[] counts, int n) {
            long lower = 0;
            for (int loose = 0; loose < n; loose++) {
                long upTo = FACTORIALS[n] / FACTORIALS[n - loose];
                counts[loose] = upTo - lower;
                lower = upTo;
            }
        }

        /** At j in how many ways k things make j blocks, for j up to n. */
        static void setBlocks(long[] row, int n, int k) {
            for (int j = 0; j <= n; j++) {
                row[j] = 0;
            }
            row[0] = 1;
            for (int things = 1; things <= k; things++) {
                for (int j = n; j > 0; j--) {
                    row[j] = j * row[j] + row[j - 1];
                }
                row[0] = 0;
            }
        }
    }
}
