import java.math.BigInteger;
import java.util.ArrayDeque;
import java.util.ArrayList;
import java.util.Arrays;
import java.util.HashMap;
import java.util.HashSet;
import java.util.LinkedHashMap;
import java.util.List;
import java.util.Map;
import java.util.Set;

/**
 * The document done in the slowest and most literal way: heaps are stacks, chances are counted row by
 * row, KINDS are classes, TRAYS are arrays of their own sort. The tests compare the program with it.
 */
final class PlainDesk {
    static final int NONE = -1, BAD = -2, STATE = -3, FULL = -4;
    static final long NO = -4611686018427387904L;

    private int n = 4;
    private final List<List<Integer>> packs = new ArrayList<>();
    private final List<Kind0> shuffles = new ArrayList<>();
    private final Object[] trays = new Object[4];
    private int seed = 0;
    private List<Integer> trace = new ArrayList<>();

    // ---- KINDS as classes, so that Java itself finds the bodies

    private static class Kind0 {
        int number;
        int heaps = 2;
        List<Integer> m;
        List<Integer> trace;

        int kind() {
            return 0;
        }

        int lays(int x) {
            trace.add(10);
            return x + number;
        }

        int cuts(int x) {
            trace.add(11);
            return lays(x) * heaps;
        }

        int turns(int x) {
            trace.add(12);
            return cuts(x) ^ lays(x + 1);
        }
    }

    private static class Kind1 extends Kind0 {
        @Override
        int kind() {
            return 1;
        }

        @Override
        int cuts(int x) {
            trace.add(20);
            return super.cuts(x) + 1;
        }
    }

    private static class Kind2 extends Kind0 {
        @Override
        int kind() {
            return 2;
        }

        @Override
        int lays(int x) {
            trace.add(30);
            return super.lays(x) - heaps;
        }

        @Override
        int turns(int x) {
            trace.add(31);
            return super.turns(x) * 2;
        }
    }

    private static class Kind3 extends Kind2 {
        @Override
        int kind() {
            return 3;
        }

        @Override
        int cuts(int x) {
            trace.add(40);
            return super.cuts(x) + super.lays(x);
        }
    }

    private static class Kind4 extends Kind3 {
        @Override
        int kind() {
            return 4;
        }

        @Override
        int lays(int x) {
            trace.add(50);
            return super.lays(x * 3);
        }

        @Override
        int turns(int x) {
            trace.add(51);
            return cuts(x) - super.turns(x);
        }
    }

    // ---- PACKS

    int begin(int cards) {
        if (cards < 1 || cards > 10) {
            return BAD;
        }
        n = cards;
        packs.clear();
        shuffles.clear();
        return 1;
    }

    private static List<Integer> firstOrder(int n) {
        List<Integer> order = new ArrayList<>();
        for (int i = 0; i < n; i++) {
            order.add(i);
        }
        return order;
    }

    private int addPack(List<Integer> order) {
        if (packs.size() == 12) {
            return FULL;
        }
        packs.add(order);
        return packs.size() - 1;
    }

    int pack() {
        return addPack(firstOrder(n));
    }

    private static int factorial(int n) {
        return n == 0 ? 1 : n * factorial(n - 1);
    }

    int ranked(int rank) {
        if (rank < 0 || rank >= factorial(n)) {
            return BAD;
        }
        List<Integer> left = firstOrder(n);
        List<Integer> order = new ArrayList<>();
        int rest = rank;
        while (!left.isEmpty()) {
            int block = factorial(left.size() - 1);
            order.add(left.remove(rest / block));
            rest %= block;
        }
        return addPack(order);
    }

    private static int sortOf(Object tray) {
        return tray instanceof byte[] ? 0 : tray instanceof short[] ? 1 : 2;
    }

    private static int lengthOf(Object tray) {
        return java.lang.reflect.Array.getLength(tray);
    }

    int told(int tray, int sort, int i) {
        if (tray < 0 || tray > 3 || sort < 0 || sort > 2) {
            return BAD;
        }
        Object row = trays[tray];
        if (row == null) {
            return -11;
        }
        if (sortOf(row) != sort) {
            return -13;
        }
        if (i < 0 || (long) i + n > lengthOf(row)) {
            return -12;
        }
        List<Integer> order = new ArrayList<>();
        for (int p = 0; p < n; p++) {
            order.add((int) java.lang.reflect.Array.getLong(row, i + p));
        }
        List<Integer> sorted = new ArrayList<>(order);
        sorted.sort(null);
        return sorted.equals(firstOrder(n)) ? addPack(order) : STATE;
    }

    private boolean isPack(int pack) {
        return pack >= 0 && pack < packs.size();
    }

    private boolean isShuffle(int shuffle) {
        return shuffle >= 0 && shuffle < shuffles.size();
    }

    private boolean isPlace(int place) {
        return place >= 0 && place < n;
    }

    int card(int pack, int place) {
        return isPack(pack) && isPlace(place) ? packs.get(pack).get(place) : BAD;
    }

    private static int rankOf(List<Integer> order) {
        List<Integer> left = firstOrder(order.size());
        int rank = 0;
        for (int card : order) {
            int at = left.indexOf(card);
            left.remove(at);
            rank += at * factorial(left.size());
        }
        return rank;
    }

    private static int runsOf(List<Integer> order) {
        int runs = 0;
        int next = 0;
        while (next < order.size()) {
            runs++;
            for (int card : order) {
                if (card == next) {
                    next++;
                }
            }
        }
        return runs;
    }

    int packTold(int pack, int what) {
        if (!isPack(pack) || what < 0 || what > 2) {
            return BAD;
        }
        List<Integer> order = packs.get(pack);
        return what == 0 ? rankOf(order) : what == 1 ? runsOf(order) : order.indexOf(0);
    }

    // ---- SHUFFLES

    private int addShuffle(Kind0 made, int heaps, List<Integer> m) {
        if (shuffles.size() == 10) {
            return FULL;
        }
        made.number = shuffles.size();
        made.heaps = heaps;
        made.m = m;
        shuffles.add(made);
        return made.number;
    }

    int move(int pack) {
        return isPack(pack) ? addShuffle(new Kind0(), 2, new ArrayList<>(packs.get(pack))) : BAD;
    }

    private static List<Integer> perfected(List<Integer> order, int way) {
        int half = order.size() / 2;
        List<Integer> upper = order.subList(0, half);
        List<Integer> lower = order.subList(half, order.size());
        List<Integer> made = new ArrayList<>();
        for (int i = 0; i < half; i++) {
            made.add(way == 0 ? upper.get(i) : lower.get(i));
            made.add(way == 0 ? lower.get(i) : upper.get(i));
        }
        return made;
    }

    int perfect(int way) {
        if (way < 0 || way > 1) {
            return BAD;
        }
        return n % 2 == 1 ? STATE : addShuffle(new Kind1(), 2, perfected(firstOrder(n), way));
    }

    int deal(int heaps) {
        if (heaps < 1 || heaps > n) {
            return BAD;
        }
        List<ArrayDeque<Integer>> stacks = new ArrayList<>();
        for (int h = 0; h < heaps; h++) {
            stacks.add(new ArrayDeque<>());
        }
        for (int card = 0; card < n; card++) {
            stacks.get(card % heaps).push(card);
        }
        List<Integer> made = new ArrayList<>();
        for (ArrayDeque<Integer> stack : stacks) {
            while (!stack.isEmpty()) {
                made.add(stack.pop());
            }
        }
        return addShuffle(new Kind2(), heaps, made);
    }

    int riffle(int heaps) {
        return heaps < 1 || heaps > 10 ? BAD : addShuffle(new Kind3(), heaps, null);
    }

    int top() {
        return addShuffle(new Kind4(), n, null);
    }

    private static List<Integer> moved(List<Integer> order, List<Integer> m) {
        List<Integer> made = new ArrayList<>();
        for (int from : m) {
            made.add(order.get(from));
        }
        return made;
    }

    int behind(int first, int second) {
        if (!isShuffle(first) || !isShuffle(second)) {
            return BAD;
        }
        if (shuffles.get(first).m == null || shuffles.get(second).m == null) {
            return STATE;
        }
        List<Integer> order = moved(firstOrder(n), shuffles.get(first).m);
        return addShuffle(new Kind0(), 2, moved(order, shuffles.get(second).m));
    }

    int back(int shuffle) {
        if (!isShuffle(shuffle)) {
            return BAD;
        }
        List<Integer> m = shuffles.get(shuffle).m;
        if (m == null) {
            return STATE;
        }
        List<Integer> made = new ArrayList<>();
        for (int i = 0; i < n; i++) {
            made.add(m.indexOf(i));
        }
        return addShuffle(new Kind0(), 2, made);
    }

    int moves(int shuffle, int i) {
        if (!isShuffle(shuffle) || !isPlace(i)) {
            return BAD;
        }
        List<Integer> m = shuffles.get(shuffle).m;
        return m == null ? NONE : m.get(i);
    }

    private static int roundsOf(List<Integer> m) {
        Set<Set<Integer>> rounds = new HashSet<>();
        for (int start = 0; start < m.size(); start++) {
            Set<Integer> round = new HashSet<>();
            for (int at = start; round.add(at); at = m.get(at)) {
                continue;
            }
            rounds.add(round);
        }
        return rounds.size();
    }

    private static int leastPower(List<Integer> m) {
        List<Integer> first = firstOrder(m.size());
        List<Integer> order = moved(first, m);
        int e = 1;
        while (!order.equals(first)) {
            order = moved(order, m);
            e++;
        }
        return e;
    }

    int shuffleTold(int shuffle, int what) {
        if (!isShuffle(shuffle) || what < 0 || what > 3) {
            return BAD;
        }
        Kind0 s = shuffles.get(shuffle);
        if (what < 2) {
            return what == 0 ? s.kind() : s.heaps;
        }
        if (s.m == null) {
            return NONE;
        }
        return what == 2 ? roundsOf(s.m) : leastPower(s.m);
    }

    int power(int shuffle, long e, int i) {
        if (!isShuffle(shuffle) || !isPlace(i) || e < 0) {
            return BAD;
        }
        List<Integer> square = shuffles.get(shuffle).m;
        if (square == null) {
            return NONE;
        }
        List<Integer> order = firstOrder(n);
        for (long rest = e; rest > 0; rest >>= 1) {
            if ((rest & 1) == 1) {
                order = moved(order, square);
            }
            square = moved(square, square);
        }
        return order.get(i);
    }

    int does(int shuffle, int pack) {
        if (!isShuffle(shuffle) || !isPack(pack)) {
            return BAD;
        }
        if (shuffles.get(shuffle).m == null) {
            return STATE;
        }
        packs.set(pack, moved(packs.get(pack), shuffles.get(shuffle).m));
        return 1;
    }

    // ---- lots

    private static List<Integer> riffled(List<Integer> order, List<Integer> lots, int heaps) {
        List<ArrayDeque<Integer>> queues = new ArrayList<>();
        int at = 0;
        for (int h = 0; h < heaps; h++) {
            ArrayDeque<Integer> queue = new ArrayDeque<>();
            for (int lot : lots) {
                if (lot == h) {
                    queue.add(order.get(at++));
                }
            }
            queues.add(queue);
        }
        List<Integer> made = new ArrayList<>();
        for (int lot : lots) {
            made.add(queues.get(lot).remove());
        }
        return made;
    }

    private static List<Integer> topped(List<Integer> order, int place) {
        List<Integer> made = new ArrayList<>(order);
        made.add(place, made.remove(0));
        return made;
    }

    private static List<Integer> digits(long number, int base, int length) {
        List<Integer> row = new ArrayList<>();
        for (long rest = number; rest > 0; rest /= base) {
            row.add((int) (rest % base));
        }
        while (row.size() < length) {
            row.add(0);
        }
        return row;
    }

    private void lay(Kind0 s, int pack, List<Integer> lots) {
        List<Integer> order = packs.get(pack);
        packs.set(pack, s.kind() == 4 ? topped(order, lots.get(0)) : riffled(order, lots, s.heaps));
    }

    private static BigInteger big(long number) {
        return BigInteger.valueOf(number);
    }

    int lots(int shuffle, int pack, long lots) {
        if (!isShuffle(shuffle) || !isPack(pack)) {
            return BAD;
        }
        Kind0 s = shuffles.get(shuffle);
        if (s.m != null) {
            return STATE;
        }
        BigInteger end = s.kind() == 4 ? big(n) : big(s.heaps).pow(n);
        if (lots < 0 || big(lots).compareTo(end) >= 0) {
            return BAD;
        }
        // a base of 1 has no digits to write a number with: its one row is all 0
        lay(s, pack, s.kind() == 4 ? List.of((int) lots) : digits(lots, Math.max(2, s.heaps), n));
        return 1;
    }

    private int drawnLot(int lots) {
        int v;
        do {
            seed = seed * 1103515245 + 12345;
            v = (seed >>> 16) & 15;
        } while (v >= lots);
        return v;
    }

    long draw(int shuffle, int pack) {
        if (!isShuffle(shuffle) || !isPack(pack) || shuffles.get(shuffle).m != null) {
            return NO;
        }
        Kind0 s = shuffles.get(shuffle);
        List<Integer> lots = new ArrayList<>();
        for (int i = 0; i < (s.kind() == 4 ? 1 : n); i++) {
            lots.add(drawnLot(s.heaps));
        }
        lay(s, pack, lots);
        long asOne = 0;
        for (int i = lots.size() - 1; i >= 0; i--) {
            asOne = asOne * s.heaps + lots.get(i);
        }
        return asOne;
    }

    int seed(int s) {
        int was = seed;
        seed = s;
        return was;
    }

    // ---- chances, counted

    private static long part(BigInteger above, BigInteger below, int what) {
        BigInteger shared = above.gcd(below);
        return (what == 0 ? above : below).divide(shared).longValueExact();
    }

    private static boolean isPart(int what) {
        return what == 0 || what == 1;
    }

    private boolean hasChances(Kind0 s, int k) {
        if (s.m != null || k < 0 || k > 6) {
            return false;
        }
        return s.kind() == 4 ? n <= 6 : Math.pow(s.heaps, k) < 10.5;
    }

    private BigInteger allRows(Kind0 s, int k) {
        return s.kind() == 4 ? big(n).pow(k) : big(s.heaps).pow(n * k);
    }

    private static final Map<String, Map<List<Integer>, BigInteger>> SPREADS = new HashMap<>();
    private static final Map<String, List<BigInteger>> FARS = new HashMap<>();

    private boolean isCountable(Kind0 s) {
        return n <= 6 && (s.kind() == 4 || Math.pow(s.heaps, n) < 3000);
    }

    /** How many rows of lots of k times lead from the first order to each order, one by one. */
    private Map<List<Integer>, BigInteger> spread(Kind0 s, int k) {
        String key = n + " " + s.kind() + " " + s.heaps + " " + k;
        if (!SPREADS.containsKey(key)) {
            Map<List<Integer>, BigInteger> made = new LinkedHashMap<>();
            if (k == 0) {
                made.put(firstOrder(n), BigInteger.ONE);
            } else {
                spread(s, k - 1).forEach((order, rows) -> {
                    for (List<Integer> next : nextOrders(s, order)) {
                        made.merge(next, rows, BigInteger::add);
                    }
                });
            }
            SPREADS.put(key, made);
        }
        return SPREADS.get(key);
    }

    private List<List<Integer>> nextOrders(Kind0 s, List<Integer> order) {
        List<List<Integer>> made = new ArrayList<>();
        long rows = allRows(s, 1).longValueExact();
        for (long row = 0; row < rows; row++) {
            made.add(s.kind() == 4 ? topped(order, (int) row)
                    : riffled(order, digits(row, Math.max(2, s.heaps), n), s.heaps));
        }
        return made;
    }

    /**
     * For RIFFLES too wide to be counted one by one: each CARD bears a row of lots; read by CARD they
     * rise, and rise for sure where the next CARD lies further up.
     */
    private static BigInteger risingRows(List<Integer> order, int q) {
        BigInteger[] endings = new BigInteger[q];
        Arrays.fill(endings, BigInteger.ONE);
        for (int card = 1; card < order.size(); card++) {
            boolean up = order.indexOf(card) < order.indexOf(card - 1);
            BigInteger[] next = new BigInteger[q];
            for (int lot = 0; lot < q; lot++) {
                next[lot] = BigInteger.ZERO;
                for (int lower = 0; lower < (up ? lot : lot + 1); lower++) {
                    next[lot] = next[lot].add(endings[lower]);
                }
            }
            endings = next;
        }
        return Arrays.stream(endings).reduce(BigInteger.ZERO, BigInteger::add);
    }

    private BigInteger rowsTo(Kind0 s, int k, List<Integer> order) {
        if (isCountable(s)) {
            return spread(s, k).getOrDefault(order, BigInteger.ZERO);
        }
        return risingRows(order, (int) Math.round(Math.pow(s.heaps, k)));
    }

    long chance(int shuffle, int k, int pack, int what) {
        if (!isShuffle(shuffle) || !isPack(pack) || !isPart(what) || !hasChances(shuffles.get(shuffle), k)) {
            return NO;
        }
        Kind0 s = shuffles.get(shuffle);
        return part(rowsTo(s, k, packs.get(pack)), allRows(s, k), what);
    }

    /** The sum over all lots at each place; ahead tells how many CARDS lie ahead in the heaps. */
    private static BigInteger rowsToPlace(int n, int a, int i, int j) {
        BigInteger sum = BigInteger.ZERO;
        for (int h = 0; h < a; h++) {
            BigInteger[] ahead = new BigInteger[n + 1];
            Arrays.fill(ahead, BigInteger.ZERO);
            ahead[0] = BigInteger.ONE;
            for (int place = 0; place < n; place++) {
                int counted = place == j ? 0 : place < j ? h + 1 : h;
                int others = place == j ? 1 : a - counted;
                for (int c = n; c >= 0; c--) {
                    BigInteger more = c == 0 ? BigInteger.ZERO : ahead[c - 1].multiply(big(counted));
                    ahead[c] = ahead[c].multiply(big(others)).add(more);
                }
            }
            sum = sum.add(ahead[i]);
        }
        return sum;
    }

    long place(int shuffle, int i, int j, int what) {
        if (!isShuffle(shuffle) || !isPlace(i) || !isPlace(j) || !isPart(what)) {
            return NO;
        }
        Kind0 s = shuffles.get(shuffle);
        if (s.m != null) {
            return NO;
        }
        BigInteger rows = BigInteger.ZERO;
        if (s.kind() == 4) {
            for (int t = 0; t < n; t++) {
                rows = rows.add(big(topped(firstOrder(n), t).indexOf(i) == j ? 1 : 0));
            }
        } else if (isCountable(s)) {
            for (Map.Entry<List<Integer>, BigInteger> each : spread(s, 1).entrySet()) {
                rows = each.getKey().indexOf(i) == j ? rows.add(each.getValue()) : rows;
            }
        } else {
            rows = rowsToPlace(n, s.heaps, i, j);
        }
        return part(rows, allRows(s, 1), what);
    }

    /** Orders with r RUNS by the sum with changing signs. */
    private static BigInteger runCount(int n, int r) {
        BigInteger sum = BigInteger.ZERO;
        BigInteger choices = BigInteger.ONE;
        for (int j = 0; j <= r; j++) {
            BigInteger term = choices.multiply(big(r - j).pow(n));
            sum = j % 2 == 0 ? sum.add(term) : sum.subtract(term);
            choices = choices.multiply(big(n + 1 - j)).divide(big(j + 1));
        }
        return sum;
    }

    /** Any order with r RUNS: r - 1 CARDS laid upside down, the others behind them. */
    private static List<Integer> orderWithRuns(int n, int r) {
        List<Integer> order = new ArrayList<>();
        for (int card = r - 1; card >= 0; card--) {
            order.add(card);
        }
        for (int card = r; card < n; card++) {
            order.add(card);
        }
        return order;
    }

    private BigInteger farSum(Kind0 s, int k) {
        BigInteger rows = allRows(s, k);
        BigInteger orders = big(factorial(n));
        BigInteger sum = BigInteger.ZERO;
        if (isCountable(s)) {
            Map<List<Integer>, BigInteger> spread = spread(s, k);
            for (BigInteger each : spread.values()) {
                sum = sum.add(each.multiply(orders).subtract(rows).abs());
            }
            return sum.add(rows.multiply(orders.subtract(big(spread.size()))));
        }
        for (int r = 1; r <= n; r++) {
            BigInteger away = rowsTo(s, k, orderWithRuns(n, r)).multiply(orders).subtract(rows).abs();
            sum = sum.add(runCount(n, r).multiply(away));
        }
        return sum;
    }

    long far(int shuffle, int k, int what) {
        if (!isShuffle(shuffle) || !isPart(what) || !hasChances(shuffles.get(shuffle), k)) {
            return NO;
        }
        Kind0 s = shuffles.get(shuffle);
        String key = n + " " + s.kind() + " " + s.heaps + " " + k;
        FARS.computeIfAbsent(key, any ->
                List.of(farSum(s, k), allRows(s, k).multiply(big(2L * factorial(n)))));
        return part(FARS.get(key).get(0), FARS.get(key).get(1), what);
    }

    long unlike(int shuffle, int k, int what) {
        if (!isShuffle(shuffle) || !isPart(what) || !hasChances(shuffles.get(shuffle), k)) {
            return NO;
        }
        Kind0 s = shuffles.get(shuffle);
        if (s.kind() != 3) {
            return NO;
        }
        int q = (int) Math.round(Math.pow(s.heaps, k));
        return part(big(unlikeRows(q, n, new boolean[q])), big(q).pow(n), what);
    }

    private static final Map<String, Long> UNLIKES = new HashMap<>();

    /** How many ways CARDS can still take rows that no one has; which are taken makes no difference. */
    private static long unlikeRows(int q, int left, boolean[] taken) {
        if (left == 0) {
            return 1;
        }
        int used = 0;
        for (boolean is : taken) {
            used += is ? 1 : 0;
        }
        String key = q + " " + left + " " + used;
        if (!UNLIKES.containsKey(key)) {
            long sum = 0;
            for (int row = 0; row < q; row++) {
                if (!taken[row]) {
                    taken[row] = true;
                    sum += unlikeRows(q, left - 1, taken);
                    taken[row] = false;
                }
            }
            UNLIKES.put(key, sum);
        }
        return UNLIKES.get(key);
    }

    long runs(int r) {
        return r < 1 || r > n ? NO : runCount(n, r).longValueExact();
    }

    // ---- PERFECT ones

    private List<Integer> way(int i, int j) {
        List<List<Integer>> ways = new ArrayList<>();
        ways.add(List.of());
        while (true) {
            List<List<Integer>> longer = new ArrayList<>();
            for (List<Integer> way : ways) {
                List<Integer> order = firstOrder(n);
                for (int each : way) {
                    order = perfected(order, each);
                }
                if (order.indexOf(i) == j) {
                    return way;
                }
                for (int each = 0; each < 2; each++) {
                    List<Integer> next = new ArrayList<>(way);
                    next.add(each);
                    longer.add(next);
                }
            }
            ways = longer;
        }
    }

    int leads(int i, int j) {
        if (!isPlace(i) || !isPlace(j)) {
            return BAD;
        }
        return n % 2 == 1 ? STATE : way(i, j).size();
    }

    int lead(int i, int j, int k) {
        if (!isPlace(i) || !isPlace(j)) {
            return BAD;
        }
        if (n % 2 == 1) {
            return STATE;
        }
        List<Integer> way = way(i, j);
        return k < 0 || k >= way.size() ? NONE : way.get(k);
    }

    private static final Map<Integer, Integer> GROUPS = new HashMap<>();

    int group() {
        if (n % 2 == 1) {
            return STATE;
        }
        return GROUPS.computeIfAbsent(n, any -> {
            Set<List<Integer>> found = new HashSet<>();
            ArrayDeque<List<Integer>> open = new ArrayDeque<>();
            open.add(firstOrder(n));
            found.add(firstOrder(n));
            while (!open.isEmpty()) {
                List<Integer> order = open.remove();
                for (int each = 0; each < 2; each++) {
                    List<Integer> next = perfected(order, each);
                    if (found.add(next)) {
                        open.add(next);
                    }
                }
            }
            return found.size();
        });
    }

    // ---- ACTS

    int act(int shuffle, int act, int x) {
        trace = new ArrayList<>();
        if (!isShuffle(shuffle) || act < 0 || act > 2) {
            return 0;
        }
        Kind0 s = shuffles.get(shuffle);
        s.trace = trace;
        return act == 0 ? s.lays(x) : act == 1 ? s.cuts(x) : s.turns(x);
    }

    int trace(int i) {
        return i < 0 || i >= 40 || i >= trace.size() ? NONE : trace.get(i);
    }

    int count(int what) {
        switch (what) {
            case 0: return n;
            case 1: return packs.size();
            case 2: return shuffles.size();
            case 3: return trace.size();
            default: return BAD;
        }
    }

    // ---- TRAYS

    int tray(int tray, int sort, int size) {
        if (tray < 0 || tray > 3 || sort < -1 || sort > 2) {
            return BAD;
        }
        if (sort == -1) {
            trays[tray] = null;
            return 1;
        }
        if (size > 40) {
            return BAD;
        }
        if (size < 0) {
            return -14;
        }
        trays[tray] = sort == 0 ? new byte[size] : sort == 1 ? new short[size] : new int[size];
        return 1;
    }

    int cell(int tray, int i, int v) {
        if (tray < 0 || tray > 3) {
            return BAD;
        }
        Object row = trays[tray];
        if (row == null) {
            return -11;
        }
        if (i < 0 || i >= lengthOf(row)) {
            return -12;
        }
        if (row instanceof byte[]) {
            ((byte[]) row)[i] = (byte) v;
        } else if (row instanceof short[]) {
            ((short[]) row)[i] = (short) v;
        } else {
            ((int[]) row)[i] = v;
        }
        return 1;
    }

    int copy(int tray, int i, int other, int j, int size) {
        if (tray < 0 || tray > 3 || other < 0 || other > 3) {
            return BAD;
        }
        if (trays[tray] == null || trays[other] == null) {
            return -11;
        }
        if (trays[tray].getClass() != trays[other].getClass()) {
            return -13;
        }
        boolean below = size < 0 || i < 0 || j < 0;
        if (below || (long) i + size > lengthOf(trays[tray]) || (long) j + size > lengthOf(trays[other])) {
            return -12;
        }
        System.arraycopy(trays[tray], i, trays[other], j, size);
        return size;
    }

    int taken(int shuffle, int k) {
        if (k < 0 || k > 4) {
            return BAD;
        }
        if (!isShuffle(shuffle)) {
            return -11;
        }
        List<Class<?>> kinds = List.of(Kind0.class, Kind1.class, Kind2.class, Kind3.class, Kind4.class);
        Kind0 s = shuffles.get(shuffle);
        return kinds.get(k).isInstance(s) ? s.heaps : -13;
    }
}
