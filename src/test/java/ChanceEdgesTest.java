/** The boundaries that promises 22 to 29 name: chances, orders by their runs, and PERFECT ones in a row. */
public final class ChanceEdgesTest extends Edges {
    private static final int[] WRONG_PARTS = {-1, 2, LOWEST, HIGHEST};

    private ChanceEdgesTest() {
        super("ChanceEdgesTest", 22, 29);
    }

    public static void main(String[] args) {
        new ChanceEdgesTest().run();
    }

    private void run() {
        chances();
        places();
        fars();
        unlikes();
        waysAndRuns();
        end();
    }

    private void chances() {
        sentence(22, "k 0 .. 6 for RIFFLES with a to the k at most 10", this::chanceRiffleTimes);
        sentence(22, "k 0 .. 6 (for TOPS too)", this::chanceTopTimes);
        sentence(22, "for TOPS n at most 6", this::chanceTopCards);
        sentence(22, "NO: no such SHUFFLE, PACK", this::chanceNumbers);
        sentence(22, "what 0, 1", this::chanceWhat);
        sentence(22, "NO: it has a MOVE", this::chanceMove);
        sentence(22, "beginning from the first order; k 0", this::chanceNever);
        sentence(22, "in lowest terms, below the line above 0", this::chanceLowest);
        sentence(22, "every order's chance, of the most CARDS and heaps", this::chanceOfTen);
        sentence(22, "all t are alike likely", this::chanceTopOrders);
    }

    private void places() {
        sentence(23, "NO: no such SHUFFLE", this::placeShuffle);
        sentence(23, "NO: no such place i, j", this::placePlaces);
        sentence(23, "what 0, 1", this::placeWhat);
        sentence(23, "NO: it has a MOVE", this::placeMove);
        sentence(23, "the chance that the CARD at place i is at place j behind one TOP", this::placeTop);
        sentence(23, "the chance that the CARD at place i is at place j behind one RIFFLE", this::placeRiffle);
    }

    private void fars() {
        sentence(24, "k 0 .. 6 for RIFFLES with a to the k at most 10", this::farRiffleTimes);
        sentence(24, "k 0 .. 6 (for TOPS too)", this::farTopTimes);
        sentence(24, "for TOPS n at most 6", this::farTopCards);
        sentence(24, "NO: no such SHUFFLE", this::farShuffle);
        sentence(24, "what 0, 1", this::farWhat);
        sentence(24, "NO: it has a MOVE", this::farMove);
        sentence(24, "over all orders, of the fewest and the most CARDS", this::farCards);
    }

    private void unlikes() {
        sentence(25, "k 0 .. 6, a to the k at most 10", this::unlikeTimes);
        sentence(25, "of a RIFFLE (not TOP)", this::unlikeKind);
        sentence(25, "NO: no such", this::unlikeShuffle);
        sentence(25, "what 0, 1", this::unlikeWhat);
        sentence(25, "no two CARDS have the same row of k lots", this::unlikeCards);
    }

    private void waysAndRuns() {
        sentence(26, "NO: r is not 1 .. n", this::runsR);
        sentence(26, "how many orders have r RUNS", this::runsCount);
        sentence(27, "BAD: no such place", this::leadsPlaces);
        sentence(27, "STATE: n is odd", this::leadsOdd);
        sentence(27, "BAD ahead of STATE", this::leadsInOrder);
        sentence(27, "THE WAY is the shortest", this::leadsLength);
        sentence(28, "NONE: none such", this::leadNone);
        sentence(28, "BAD: no such place", this::leadPlaces);
        sentence(28, "STATE: n is odd", this::leadOdd);
        sentence(28, "of like ones the one with 0 at the first place", this::leadFirst);
        sentence(29, "STATE: n is odd", this::groupOdd);
        sentence(29, "the first one too", this::groupFirst);
    }

    // ---- what is due

    /** a to the k, or 0 if a RIFFLE of a heaps has no CHANCE for k times. */
    private static long rowsOfOne(int a, int k) {
        if (k < 0 || k > 6) {
            return 0;
        }
        long rows = raised(a, k);
        return rows <= 10 ? rows : 0;
    }

    private void insideFraction(String what, long above, long below, long wantAbove, long wantBelow) {
        long shared = divisor(wantAbove, wantBelow);
        inside(what + " above the line", above, wantAbove / shared);
        inside(what + " below the line", below, wantBelow / shared);
    }

    /** SHUFFLES 0 .. 4, one of each KIND in turn; the number of CARDS is even. */
    private void oneOfEach() {
        desk.pack();
        desk.move(0);
        desk.perfect(1);
        desk.deal(2);
        desk.riffle(3);
        desk.top();
    }

    private static long choices(int of, int taken) {
        return taken == 0 ? 1 : choices(of - 1, taken - 1) * of / taken;
    }

    // ---- 22

    /** Of two CARDS, q rows of one CARD give q * (q + 1) / 2 rows for the first order. */
    private void chanceRiffleTimes() {
        fresh(2);
        desk.pack();
        for (int a = 1; a <= 10; a++) {
            int s = desk.riffle(a);
            for (int k = -1; k <= 7; k++) {
                String call = k + " times " + a + " heaps";
                long q = rowsOfOne(a, k);
                if (q > 0) {
                    insideFraction(call, desk.chance(s, k, 0, 0), desk.chance(s, k, 0, 1), q + 1, 2 * q);
                } else {
                    outside(call, desk.chance(s, k, 0, 0), NO);
                    outside(call, desk.chance(s, k, 0, 1), NO);
                }
            }
            outside("lowest k", desk.chance(s, LOWEST, 0, 0), NO);
            outside("highest k", desk.chance(s, HIGHEST, 0, 0), NO);
        }
    }

    private void chanceTopTimes() {
        fresh(6);
        desk.pack();
        desk.top();
        long[] above = {1, 1, 2, 5, 15, 52, 203};
        for (int k = 0; k <= 6; k++) {
            insideFraction(k + " times", desk.chance(0, k, 0, 0), desk.chance(0, k, 0, 1), above[k], raised(6, k));
        }
        for (int wrong : new int[] {-1, 7, LOWEST, HIGHEST}) {
            outside(wrong + " times", desk.chance(0, wrong, 0, 0), NO);
            outside(wrong + " times", desk.chance(0, wrong, 0, 1), NO);
        }
    }

    private void chanceTopCards() {
        for (int n = 1; n <= 10; n++) {
            fresh(n);
            desk.pack();
            desk.top();
            if (n <= 6) {
                insideFraction(n + " cards", desk.chance(0, 1, 0, 0), desk.chance(0, 1, 0, 1), 1, n);
                inside(n + " cards, never", desk.chance(0, 0, 0, 0), 1);
            } else {
                outside(n + " cards", desk.chance(0, 1, 0, 0), NO);
                outside(n + " cards, never", desk.chance(0, 0, 0, 0), NO);
                inside("a riffle of as many", desk.chance(desk.riffle(1), 1, 0, 0), 1);
            }
        }
    }

    private void chanceNumbers() {
        outside("nothing there", desk.chance(0, 0, 0, 0), NO);
        desk.riffle(1);
        outside("no packs", desk.chance(0, 0, 0, 0), NO);
        fillPacks();
        inside("pack 0", desk.chance(0, 0, 0, 0), 1);
        inside("pack 11", desk.chance(0, 0, 11, 0), 1);
        outside("pack 12", desk.chance(0, 0, 12, 0), NO);
        outside("shuffle 1", desk.chance(1, 0, 0, 0), NO);
        for (int wrong : new int[] {-1, LOWEST, HIGHEST}) {
            outside("pack " + wrong, desk.chance(0, 0, wrong, 0), NO);
            outside("shuffle " + wrong, desk.chance(wrong, 0, 0, 0), NO);
        }
    }

    private void chanceWhat() {
        desk.pack();
        desk.riffle(2);
        desk.top();
        inside("riffle, what 0", desk.chance(0, 1, 0, 0), 5);
        inside("riffle, what 1", desk.chance(0, 1, 0, 1), 16);
        inside("top, what 0", desk.chance(1, 1, 0, 0), 1);
        inside("top, what 1", desk.chance(1, 1, 0, 1), 4);
        for (int wrong : WRONG_PARTS) {
            outside("riffle, what " + wrong, desk.chance(0, 1, 0, wrong), NO);
            outside("top, what " + wrong, desk.chance(1, 1, 0, wrong), NO);
        }
    }

    private void chanceMove() {
        oneOfEach();
        for (int s = 0; s < 3; s++) {
            outside("of kind " + s, desk.chance(s, 0, 0, 0), NO);
            outside("of kind " + s, desk.chance(s, 1, 0, 1), NO);
        }
        inside("riffle", desk.chance(3, 0, 0, 0), 1);
        inside("top", desk.chance(4, 0, 0, 0), 1);
    }

    private void chanceNever() {
        for (int n = 1; n <= 6; n++) {
            fresh(n);
            desk.pack();
            desk.ranked(factorial(n) - 1);
            desk.riffle(10);
            desk.top();
            for (int s = 0; s < 2; s++) {
                insideFraction("the first order", desk.chance(s, 0, 0, 0), desk.chance(s, 0, 0, 1), 1, 1);
                insideFraction("the last order", desk.chance(s, 0, 1, 0), desk.chance(s, 0, 1, 1), n == 1 ? 1 : 0, 1);
                outside("k -1", desk.chance(s, -1, 0, 0), NO);
            }
        }
    }

    private void chanceLowest() {
        desk.ranked(23);
        desk.ranked(13);
        desk.riffle(2);
        inside("no row leads there: 0", desk.chance(0, 1, 0, 0), 0);
        inside("by 1", desk.chance(0, 1, 0, 1), 1);
        inside("one row of 256", desk.chance(0, 2, 0, 0), 1);
        inside("of 256", desk.chance(0, 2, 0, 1), 256);
        inside("210 of 4096", desk.chance(0, 3, 1, 0), 105);
        inside("of 4096", desk.chance(0, 3, 1, 1), 2048);
        outside("16 rows of one card", desk.chance(0, 4, 1, 0), NO);
    }

    private void chanceOfTen() {
        fresh(10);
        desk.ranked(0);
        desk.ranked(factorial(10) - 1);
        desk.riffle(10);
        desk.riffle(9);
        desk.riffle(2);
        long rows = raised(10, 10);
        insideFraction("the first order", desk.chance(0, 1, 0, 0), desk.chance(0, 1, 0, 1), choices(19, 10), rows);
        insideFraction("the last order", desk.chance(0, 1, 1, 0), desk.chance(0, 1, 1, 1), 1, rows);
        insideFraction("nine heaps make no ten runs", desk.chance(1, 1, 1, 0), desk.chance(1, 1, 1, 1), 0, 1);
        insideFraction("eight rows", desk.chance(2, 3, 0, 0), desk.chance(2, 3, 0, 1), choices(17, 10), 1L << 30);
        outside("sixteen rows", desk.chance(2, 4, 0, 0), NO);
    }

    /** Behind one TOP: the n orders in which CARD 0 has come somewhere, and no others. */
    private void chanceTopOrders() {
        fresh(6);
        desk.top();
        for (int t = 0; t < 6; t++) {
            int pack = desk.pack();
            desk.lots(0, pack, t);
            insideFraction("lot " + t, desk.chance(0, 1, pack, 0), desk.chance(0, 1, pack, 1), 1, 6);
        }
        int pack = packOf("021345");
        insideFraction("no lot", desk.chance(0, 1, pack, 0), desk.chance(0, 1, pack, 1), 0, 1);
        // CARD 0 to place 1, then CARD 1 to place 2, and no other way
        insideFraction("two lots", desk.chance(0, 2, pack, 0), desk.chance(0, 2, pack, 1), 1, 36);
        pack = packOf("543210");
        insideFraction("four lots cannot", desk.chance(0, 4, pack, 0), desk.chance(0, 4, pack, 1), 0, 1);
        insideFraction("five lots can", desk.chance(0, 5, pack, 0), desk.chance(0, 5, pack, 1), 1, 7776);
        outside("seven times", desk.chance(0, 7, pack, 0), NO);
    }

    // ---- 23

    private void placeShuffle() {
        outside("no shuffles", desk.place(0, 0, 0, 0), NO);
        for (int i = 0; i < 10; i++) {
            desk.riffle(1);
        }
        inside("the first", desk.place(0, 0, 0, 0), 1);
        inside("the last", desk.place(9, 0, 0, 0), 1);
        for (int wrong : new int[] {-1, 10, LOWEST, HIGHEST}) {
            outside("shuffle " + wrong, desk.place(wrong, 0, 0, 0), NO);
        }
    }

    private void placePlaces() {
        for (int n = 1; n <= 10; n++) {
            fresh(n);
            desk.riffle(1);
            desk.top();
            for (int s = 0; s < 2; s++) {
                inside("0 to 0", desk.place(s, 0, 0, 0), 1);
                inside("the last stays", desk.place(s, n - 1, n - 1, 0), s == 0 || n == 1 ? 1 : n - 1);
                outside("i " + n, desk.place(s, n, 0, 0), NO);
                outside("j " + n, desk.place(s, 0, n, 0), NO);
                outside("i -1", desk.place(s, -1, 0, 0), NO);
                outside("j -1", desk.place(s, 0, -1, 0), NO);
            }
        }
        for (int wrong : new int[] {LOWEST, HIGHEST}) {
            outside("i " + wrong, desk.place(0, wrong, 0, 0), NO);
            outside("j " + wrong, desk.place(1, 0, wrong, 0), NO);
        }
    }

    private void placeWhat() {
        desk.riffle(2);
        desk.top();
        inside("riffle, what 0", desk.place(0, 0, 0, 0), 9);
        inside("riffle, what 1", desk.place(0, 0, 0, 1), 16);
        inside("top, what 0", desk.place(1, 1, 0, 0), 3);
        inside("top, what 1", desk.place(1, 1, 0, 1), 4);
        for (int wrong : WRONG_PARTS) {
            outside("riffle, what " + wrong, desk.place(0, 0, 0, wrong), NO);
            outside("top, what " + wrong, desk.place(1, 1, 0, wrong), NO);
        }
    }

    private void placeMove() {
        oneOfEach();
        for (int s = 0; s < 3; s++) {
            outside("of kind " + s, desk.place(s, 0, 0, 0), NO);
        }
        inside("riffle", desk.place(3, 0, 3, 0), 1);
        inside("top", desk.place(4, 0, 3, 0), 1);
    }

    private void placeTop() {
        for (int n : new int[] {1, 6, 7, 10}) {
            fresh(n);
            desk.top();
            for (int j = 0; j < n; j++) {
                insideFraction("0 to " + j, desk.place(0, 0, j, 0), desk.place(0, 0, j, 1), 1, n);
            }
            for (int i = 1; i < n; i++) {
                insideFraction(i + " up", desk.place(0, i, i - 1, 0), desk.place(0, i, i - 1, 1), n - i, n);
                insideFraction(i + " stays", desk.place(0, i, i, 0), desk.place(0, i, i, 1), i, n);
            }
            for (int i = 1; i < n - 1; i++) {
                insideFraction(i + " down", desk.place(0, i, i + 1, 0), desk.place(0, i, i + 1, 1), 0, 1);
                insideFraction("far up", desk.place(0, i + 1, i - 1, 0), desk.place(0, i + 1, i - 1, 1), 0, 1);
            }
            outside("place " + n, desk.place(0, 0, n, 0), NO);
        }
    }

    /** The last CARD comes on top if its lot is above all others'; the first one stays if none is below. */
    private void placeRiffle() {
        for (int n : new int[] {2, 9, 10}) {
            fresh(n);
            for (int a = 1; a <= 10; a++) {
                int s = desk.riffle(a);
                long stays = 0;
                long comes = 0;
                for (int h = 0; h < a; h++) {
                    stays += raised(a - h, n - 1);
                    comes += raised(h, n - 1);
                }
                long rows = raised(a, n);
                insideFraction(a + " heaps, stays", desk.place(s, 0, 0, 0), desk.place(s, 0, 0, 1), stays, rows);
                insideFraction(a + " heaps, stays last",
                        desk.place(s, n - 1, n - 1, 0), desk.place(s, n - 1, n - 1, 1), stays, rows);
                insideFraction(a + " heaps, comes up", desk.place(s, n - 1, 0, 0), desk.place(s, n - 1, 0, 1), comes, rows);
                insideFraction(a + " heaps, goes down", desk.place(s, 0, n - 1, 0), desk.place(s, 0, n - 1, 1), comes, rows);
            }
            outside("place " + n, desk.place(0, n, 0, 0), NO);
        }
    }

    // ---- 24

    /** Of two CARDS, each order is 1 by 2q away from even. */
    private void farRiffleTimes() {
        fresh(2);
        for (int a = 1; a <= 10; a++) {
            int s = desk.riffle(a);
            for (int k = -1; k <= 7; k++) {
                String call = k + " times " + a + " heaps";
                long q = rowsOfOne(a, k);
                if (q > 0) {
                    insideFraction(call, desk.far(s, k, 0), desk.far(s, k, 1), 1, 2 * q);
                } else {
                    outside(call, desk.far(s, k, 0), NO);
                    outside(call, desk.far(s, k, 1), NO);
                }
            }
            outside("lowest k", desk.far(s, LOWEST, 0), NO);
            outside("highest k", desk.far(s, HIGHEST, 0), NO);
        }
    }

    private void farTopTimes() {
        fresh(2);
        desk.top();
        insideFraction("never", desk.far(0, 0, 0), desk.far(0, 0, 1), 1, 2);
        for (int k = 1; k <= 6; k++) {
            insideFraction(k + " times", desk.far(0, k, 0), desk.far(0, k, 1), 0, 1);
        }
        for (int wrong : new int[] {-1, 7, LOWEST, HIGHEST}) {
            outside(wrong + " times", desk.far(0, wrong, 0), NO);
            outside(wrong + " times", desk.far(0, wrong, 1), NO);
        }
    }

    /** Behind one TOP all but the n orders that can come are missing. */
    private void farTopCards() {
        for (int n = 1; n <= 10; n++) {
            fresh(n);
            desk.top();
            if (n <= 6) {
                long all = factorial(n);
                insideFraction(n + " cards", desk.far(0, 1, 0), desk.far(0, 1, 1), all - n, all);
                insideFraction(n + " cards, never", desk.far(0, 0, 0), desk.far(0, 0, 1), all - 1, all);
            } else {
                outside(n + " cards", desk.far(0, 1, 0), NO);
                outside(n + " cards, never", desk.far(0, 0, 0), NO);
            }
        }
    }

    private void farShuffle() {
        outside("no shuffles", desk.far(0, 0, 0), NO);
        for (int i = 0; i < 10; i++) {
            desk.riffle(1);
        }
        inside("the first", desk.far(0, 0, 0), 23);
        inside("the last", desk.far(9, 0, 0), 23);
        for (int wrong : new int[] {-1, 10, LOWEST, HIGHEST}) {
            outside("shuffle " + wrong, desk.far(wrong, 0, 0), NO);
        }
    }

    private void farWhat() {
        desk.riffle(2);
        desk.top();
        inside("riffle, what 0", desk.far(0, 3, 0), 37);
        inside("riffle, what 1", desk.far(0, 3, 1), 256);
        inside("top, what 0", desk.far(1, 1, 0), 5);
        inside("top, what 1", desk.far(1, 1, 1), 6);
        for (int wrong : WRONG_PARTS) {
            outside("riffle, what " + wrong, desk.far(0, 1, wrong), NO);
            outside("top, what " + wrong, desk.far(1, 1, wrong), NO);
        }
    }

    private void farMove() {
        oneOfEach();
        for (int s = 0; s < 3; s++) {
            outside("of kind " + s, desk.far(s, 0, 0), NO);
        }
        inside("riffle", desk.far(3, 0, 0), 23);
        inside("top", desk.far(4, 0, 0), 23);
    }

    private void farCards() {
        long[] aboveOfFew = {0, 1, 1};
        long[] belowOfFew = {1, 4, 3};
        for (int n = 1; n <= 10; n++) {
            fresh(n);
            desk.riffle(10);
            desk.riffle(2);
            long all = factorial(n);
            insideFraction(n + " cards, never", desk.far(0, 0, 0), desk.far(0, 0, 1), all - 1, all);
            // of four CARDS and more, all 2 to the n less n orders that two heaps can bring are likelier than even
            long above = n < 4 ? aboveOfFew[n - 1] : all - (1L << n) + n;
            long below = n < 4 ? belowOfFew[n - 1] : all;
            insideFraction(n + " cards, two heaps", desk.far(1, 1, 0), desk.far(1, 1, 1), above, below);
            outside("k -1", desk.far(0, -1, 0), NO);
        }
        fresh(1);
        desk.riffle(10);
        insideFraction("one card", desk.far(0, 1, 0), desk.far(0, 1, 1), 0, 1);
    }

    // ---- 25

    private void unlikeTimes() {
        fresh(2);
        for (int a = 1; a <= 10; a++) {
            int s = desk.riffle(a);
            for (int k = -1; k <= 7; k++) {
                String call = k + " times " + a + " heaps";
                long q = rowsOfOne(a, k);
                if (q > 0) {
                    insideFraction(call, desk.unlike(s, k, 0), desk.unlike(s, k, 1), q - 1, q);
                } else {
                    outside(call, desk.unlike(s, k, 0), NO);
                    outside(call, desk.unlike(s, k, 1), NO);
                }
            }
            outside("lowest k", desk.unlike(s, LOWEST, 0), NO);
            outside("highest k", desk.unlike(s, HIGHEST, 0), NO);
        }
    }

    private void unlikeKind() {
        oneOfEach();
        for (int s : new int[] {0, 1, 2, 4}) {
            outside("of shuffle " + s + ", never", desk.unlike(s, 0, 0), NO);
            outside("of shuffle " + s, desk.unlike(s, 1, 0), NO);
        }
        inside("riffle", desk.unlike(3, 1, 0), 0);
        inside("riffle", desk.unlike(3, 2, 1), 243);
    }

    private void unlikeShuffle() {
        outside("no shuffles", desk.unlike(0, 0, 0), NO);
        fillShuffles();
        inside("the first", desk.unlike(0, 2, 0), 3);
        inside("the last", desk.unlike(9, 2, 0), 3);
        for (int wrong : new int[] {-1, 10, LOWEST, HIGHEST}) {
            outside("shuffle " + wrong, desk.unlike(wrong, 2, 0), NO);
        }
    }

    private void unlikeWhat() {
        desk.riffle(2);
        inside("what 0", desk.unlike(0, 3, 0), 105);
        inside("what 1", desk.unlike(0, 3, 1), 256);
        for (int wrong : WRONG_PARTS) {
            outside("what " + wrong, desk.unlike(0, 3, wrong), NO);
        }
    }

    /** As many rows as CARDS are just enough; with one CARD more two have the same. */
    private void unlikeCards() {
        for (int n = 1; n <= 10; n++) {
            fresh(n);
            desk.riffle(n);
            insideFraction("rows for all " + n, desk.unlike(0, 1, 0), desk.unlike(0, 1, 1), factorial(n), raised(n, n));
            if (n > 1) {
                desk.riffle(n - 1);
                insideFraction("one row too few", desk.unlike(1, 1, 0), desk.unlike(1, 1, 1), 0, 1);
            }
            insideFraction("never", desk.unlike(0, 0, 0), desk.unlike(0, 0, 1), n == 1 ? 1 : 0, 1);
            outside("k -1", desk.unlike(0, -1, 0), NO);
        }
    }

    // ---- 26

    private void runsR() {
        for (int n = 1; n <= 10; n++) {
            fresh(n);
            inside("1 run of " + n, desk.runs(1), 1);
            inside(n + " runs of " + n, desk.runs(n), 1);
            outside("0 runs", desk.runs(0), NO);
            outside(n + 1 + " runs", desk.runs(n + 1), NO);
            outside("-1 runs", desk.runs(-1), NO);
        }
        outside("lowest", desk.runs(LOWEST), NO);
        outside("highest", desk.runs(HIGHEST), NO);
    }

    /** All together are n!, those with 2 RUNS 2 to the n less n less 1; from above and below alike. */
    private void runsCount() {
        for (int n = 2; n <= 10; n++) {
            fresh(n);
            long sum = 0;
            for (int r = 1; r <= n; r++) {
                sum += desk.runs(r);
                inside(r + " runs as from the other end", desk.runs(r), desk.runs(n + 1 - r));
            }
            inside("all together", sum, factorial(n));
            inside("2 runs", desk.runs(2), (1L << n) - n - 1);
            outside("one more", desk.runs(n + 1), NO);
        }
        inside("5 runs of ten", desk.runs(5), 1310354);
    }

    // ---- 27

    private void leadsPlaces() {
        for (int n = 2; n <= 10; n += 2) {
            fresh(n);
            inside("0 to 0", desk.leads(0, 0), 0);
            inside("the last stays", desk.leads(n - 1, n - 1), 0);
            outside("from " + n, desk.leads(n, 0), BAD);
            outside("to " + n, desk.leads(0, n), BAD);
            outside("from -1", desk.leads(-1, 0), BAD);
            outside("to -1", desk.leads(0, -1), BAD);
        }
        for (int wrong : new int[] {LOWEST, HIGHEST}) {
            outside("from " + wrong, desk.leads(wrong, 0), BAD);
            outside("to " + wrong, desk.leads(0, wrong), BAD);
        }
    }

    private void leadsOdd() {
        for (int n = 1; n <= 10; n++) {
            fresh(n);
            if (n % 2 == 0) {
                inside(n + " cards", desk.leads(0, 1), 1);
            } else {
                outside(n + " cards", desk.leads(0, n - 1), STATE);
                outside(n + " cards, no way at all", desk.leads(0, 0), STATE);
            }
        }
    }

    private void leadsInOrder() {
        fresh(9);
        inside("odd alone", desk.leads(8, 0), STATE);
        outside("BAD ahead of STATE", desk.leads(9, 0), BAD);
        outside("BAD ahead of STATE", desk.leads(0, 9), BAD);
        outside("BAD ahead of STATE", desk.leads(-1, 0), BAD);
    }

    /** From the top to a place: the place's number in twos. */
    private void leadsLength() {
        int[] digits = {0, 1, 2, 2, 3, 3, 3, 3, 4, 4};
        for (int n = 2; n <= 10; n += 2) {
            fresh(n);
            for (int j = 0; j < n; j++) {
                inside("0 to " + j + " of " + n, desk.leads(0, j), digits[j]);
                inside("as from the other end", desk.leads(n - 1, n - 1 - j), digits[j]);
            }
            outside("0 to " + n, desk.leads(0, n), BAD);
        }
    }

    // ---- 28

    private void leadNone() {
        for (int n = 2; n <= 10; n += 2) {
            fresh(n);
            int length = desk.leads(0, n - 1);
            inside("the first one", desk.lead(0, n - 1, 0), 1);
            inside("the last one", desk.lead(0, n - 1, length - 1), 1);
            outside("behind the last one", desk.lead(0, n - 1, length), NONE);
            outside("ahead of the first one", desk.lead(0, n - 1, -1), NONE);
            outside("lowest", desk.lead(0, n - 1, LOWEST), NONE);
            outside("highest", desk.lead(0, n - 1, HIGHEST), NONE);
            outside("of no ones", desk.lead(1, 1, 0), NONE);
        }
    }

    private void leadPlaces() {
        for (int n = 2; n <= 10; n += 2) {
            fresh(n);
            inside("0 to 1", desk.lead(0, 1, 0), 1);
            outside("from " + n, desk.lead(n, 0, 0), BAD);
            outside("to " + n, desk.lead(0, n, 0), BAD);
            outside("from -1", desk.lead(-1, 0, 0), BAD);
            outside("to -1, none such", desk.lead(0, -1, 99), BAD);
        }
        for (int wrong : new int[] {LOWEST, HIGHEST}) {
            outside("from " + wrong, desk.lead(wrong, 0, 0), BAD);
            outside("to " + wrong, desk.lead(0, wrong, 0), BAD);
        }
    }

    private void leadOdd() {
        for (int n = 1; n <= 10; n++) {
            fresh(n);
            if (n % 2 == 0) {
                inside(n + " cards", desk.lead(1, 1, 0), NONE);
            } else {
                outside(n + " cards", desk.lead(0, n - 1, 0), STATE);
                outside(n + " cards, none such", desk.lead(0, 0, -1), STATE);
                outside("BAD ahead of STATE", desk.lead(0, n, 0), BAD);
            }
        }
    }

    private long way(int i, int j) {
        long code = 1;
        for (int k = 0; k < desk.leads(i, j); k++) {
            code = code * 10 + desk.lead(i, j, k);
        }
        return code;
    }

    /** For these numbers of CARDS no two shortest rows are alike long, so the first found is the only one. */
    private void leadFirst() {
        for (int n = 2; n <= 10; n += 2) {
            for (int i = 0; i < n; i++) {
                fresh(n);
                for (int j = 0; j < n; j++) {
                    inside(i + " to " + j + " of " + n, way(i, j), firstWay(n, i, j));
                }
                outside("no further place", desk.lead(i, n, 0), BAD);
            }
        }
    }

    /** Rows are tried from the shortest on, and of like ones from the lowest on. */
    private static long firstWay(int n, int i, int j) {
        for (int length = 0; length <= n; length++) {
            for (int row = 0; row < 1 << length; row++) {
                int at = i;
                String ones = "";
                for (int bit = length - 1; bit >= 0; bit--) {
                    at = perfected(n, row >> bit & 1).indexOf('0' + at);
                    ones += row >> bit & 1;
                }
                if (at == j) {
                    return code(ones);
                }
            }
        }
        return 0;
    }

    private static String perfected(int n, int way) {
        StringBuilder order = new StringBuilder();
        for (int i = 0; i < n / 2; i++) {
            order.append(way == 0 ? i : n / 2 + i).append(way == 0 ? n / 2 + i : i);
        }
        return order.toString();
    }

    // ---- 29

    private void groupOdd() {
        int[] groups = {2, 8, 24, 24, 1920};
        for (int n = 1; n <= 10; n++) {
            fresh(n);
            if (n % 2 == 0) {
                inside(n + " cards", desk.group(), groups[n / 2 - 1]);
            } else {
                outside(n + " cards", desk.group(), STATE);
            }
        }
    }

    /** Two CARDS have two orders: the first one, by no row at all, and the other. */
    private void groupFirst() {
        fresh(2);
        inside("two cards", desk.group(), 2);
        desk.begin(4);
        inside("four cards: a third of all 24", desk.group(), 8);
        desk.begin(3);
        outside("three cards", desk.group(), STATE);
    }
}
