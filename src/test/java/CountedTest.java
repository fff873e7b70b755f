/**
 * Chances of RIFFLES counted row of lots by row of lots, and RUNS order by order, for packs that are
 * too great for PlainDesk to count: nothing here knows a formula that the program could share.
 */
public final class CountedTest {
    private static final Check CHECK = new Check("CountedTest");

    /** CARDS, heaps and times; each has some millions of rows at most. */
    private static final int[][] CASES = {
        {6, 9, 1}, {6, 10, 1}, {7, 2, 1}, {7, 2, 2}, {7, 2, 3}, {7, 3, 1}, {7, 3, 2}, {7, 7, 1}, {7, 8, 1},
        {8, 2, 1}, {8, 2, 2}, {8, 3, 1}, {8, 4, 1}, {8, 6, 1}, {9, 2, 1}, {9, 2, 2}, {9, 3, 1}, {9, 5, 1},
        {10, 1, 6}, {10, 2, 1}, {10, 2, 2}, {10, 3, 1}, {10, 4, 1},
    };

    private static ShuffleDesk desk;

    private final int n;
    private final int heaps;
    private final int times;
    private final int[] rowsToRank;
    private final int[][] rowsToPlace;
    private long rows = 0;
    private long unlikeRows = 0;

    private CountedTest(int n, int heaps, int times) {
        this.n = n;
        this.heaps = heaps;
        this.times = times;
        rowsToRank = new int[factorial(n)];
        rowsToPlace = new int[n][n];
    }

    public static void main(String[] args) {
        for (int[] each : CASES) {
            CountedTest counted = new CountedTest(each[0], each[1], each[2]);
            counted.countAll();
            counted.compare();
        }
        for (int n = 1; n <= 10; n++) {
            compareRuns(n);
        }
        CHECK.end();
    }

    // ---- counting

    private void countAll() {
        int[] lots = new int[n * times];
        do {
            int[] order = firstOrder(n);
            for (int time = 0; time < times; time++) {
                order = riffled(order, lots, time * n);
            }
            rows++;
            rowsToRank[rankOf(order)]++;
            unlikeRows += isUnlike(lots) ? 1 : 0;
            for (int j = 0; j < n; j++) {
                rowsToPlace[order[j]][j]++;
            }
        } while (next(lots));
    }

    /** Counts the row on like a number, its first digit the lowest; false behind the last one. */
    private boolean next(int[] lots) {
        for (int i = 0; i < lots.length; i++) {
            lots[i]++;
            if (lots[i] < heaps) {
                return true;
            }
            lots[i] = 0;
        }
        return false;
    }

    private int[] riffled(int[] order, int[] lots, int start) {
        int[] made = new int[n];
        int laid = 0;
        for (int heap = 0; heap < heaps; heap++) {
            for (int i = 0; i < n; i++) {
                if (lots[start + i] == heap) {
                    made[i] = order[laid];
                    laid++;
                }
            }
        }
        return made;
    }

    private boolean isUnlike(int[] lots) {
        for (int card = 0; card < n; card++) {
            for (int other = 0; other < card; other++) {
                boolean like = true;
                for (int time = 0; time < times; time++) {
                    like &= lots[time * n + card] == lots[time * n + other];
                }
                if (like) {
                    return false;
                }
            }
        }
        return true;
    }

    // ---- comparing

    private void compare() {
        fresh(n);
        int s = desk.riffle(heaps);
        String of = n + " cards, " + heaps + " heaps, " + times + " times: ";
        fraction(of + "unlike", desk.unlike(s, times, 0), desk.unlike(s, times, 1), unlikeRows, rows);
        fraction(of + "far", desk.far(s, times, 0), desk.far(s, times, 1), sizes(), 2 * rows * rowsToRank.length);
        for (int i = 0; i < n && times == 1; i++) {
            for (int j = 0; j < n; j++) {
                fraction(of + "place " + i + " " + j, desk.place(s, i, j, 0), desk.place(s, i, j, 1),
                        rowsToPlace[i][j], rows);
            }
        }
        // a step that shares nothing with n! meets all sorts of orders
        int step = n <= 7 ? 1 : n == 8 ? 11 : n == 9 ? 101 : 1009;
        for (int rank = 0; rank < rowsToRank.length; rank += step) {
            compareChance(of, rank);
        }
        compareChance(of, rowsToRank.length - 1);
    }

    private void compareChance(String of, int rank) {
        fresh(n);
        int s = desk.riffle(heaps);
        int pack = desk.ranked(rank);
        fraction(of + "chance of rank " + rank, desk.chance(s, times, pack, 0), desk.chance(s, times, pack, 1),
                rowsToRank[rank], rows);
    }

    /** The sum of the sizes of (CHANCE less 1 by n!), times rows and n!. */
    private long sizes() {
        long sum = 0;
        for (int each : rowsToRank) {
            sum += Math.abs((long) each * rowsToRank.length - rows);
        }
        return sum;
    }

    private static void fraction(String call, long above, long below, long dueAbove, long dueBelow) {
        long shared = divisor(dueAbove, dueBelow);
        CHECK.due(call + ", above", above, dueAbove / shared);
        CHECK.due(call + ", below", below, dueBelow / shared);
    }

    private static void compareRuns(int n) {
        long[] orders = new long[n + 1];
        int[] order = firstOrder(n);
        do {
            orders[runsOf(order)]++;
        } while (nextOrder(order));
        fresh(n);
        for (int r = 1; r <= n; r++) {
            CHECK.due(n + " cards: runs " + r, desk.runs(r), orders[r]);
        }
    }

    private static void fresh(int n) {
        desk = new ShuffleDesk();
        CHECK.due("begin " + n, desk.begin(n), 1);
    }

    // ---- orders

    private static int[] firstOrder(int n) {
        int[] order = new int[n];
        for (int i = 0; i < n; i++) {
            order[i] = i;
        }
        return order;
    }

    private static int rankOf(int[] order) {
        int rank = 0;
        for (int i = 0; i < order.length; i++) {
            int lower = 0;
            for (int later = i + 1; later < order.length; later++) {
                lower += order[later] < order[i] ? 1 : 0;
            }
            rank = rank * (order.length - i) + lower;
        }
        return rank;
    }

    /** Takes up the CARDS 0, 1, .. in turn, once through the pack for each RUN. */
    private static int runsOf(int[] order) {
        int runs = 0;
        int next = 0;
        while (next < order.length) {
            runs++;
            for (int card : order) {
                next += card == next ? 1 : 0;
            }
        }
        return runs;
    }

    /** The order of the next RANK; false behind the last one. */
    private static boolean nextOrder(int[] order) {
        int at = order.length - 2;
        while (at >= 0 && order[at] > order[at + 1]) {
            at--;
        }
        if (at < 0) {
            return false;
        }
        int other = order.length - 1;
        while (order[other] < order[at]) {
            other--;
        }
        swap(order, at, other);
        for (int low = at + 1, high = order.length - 1; low < high; low++, high--) {
            swap(order, low, high);
        }
        return true;
    }

    private static void swap(int[] order, int one, int other) {
        int kept = order[one];
        order[one] = order[other];
        order[other] = kept;
    }

    private static int factorial(int n) {
        return n == 0 ? 1 : n * factorial(n - 1);
    }

    private static long divisor(long one, long other) {
        return other == 0 ? one : divisor(other, one % other);
    }
}
