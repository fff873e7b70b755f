/**
 * Small questions asked for every number of CARDS, every heap and every order that there is room for.
 * New desks are made again and again: nothing is promised of one behind its 512th call.
 */
public final class EveryCaseTest {
    private static final Check CHECK = new Check("EveryCaseTest");
    private static final int[] FACTORIALS = {1, 1, 2, 6, 24, 120, 720, 5040, 40320, 362880, 3628800};

    private static ShuffleDesk desk;
    private static PlainDesk plain;

    private EveryCaseTest() {
    }

    public static void main(String[] args) {
        for (int n = 1; n <= 10; n++) {
            groupAndRuns(n);
            ways(n);
            moves(n);
            lotShuffles(n);
            if (n <= 6) {
                orders(n);
            }
        }
        CHECK.end();
    }

    private static void fresh(int n) {
        desk = new ShuffleDesk();
        plain = new PlainDesk();
        same("begin " + n, desk.begin(n), plain.begin(n));
    }

    private static void same(String call, long got, long want) {
        CHECK.due(call, got, want);
    }

    private static void groupAndRuns(int n) {
        fresh(n);
        same(n + ": group", desk.group(), plain.group());
        for (int r = -1; r <= n + 2; r++) {
            same(n + ": runs " + r, desk.runs(r), plain.runs(r));
        }
    }

    private static void ways(int n) {
        for (int i = -1; i <= n; i++) {
            fresh(n);
            for (int j = -1; j <= n; j++) {
                same(n + ": leads " + i + " " + j, desk.leads(i, j), plain.leads(i, j));
                for (int k = -1; k <= 6; k++) {
                    same(n + ": lead " + i + " " + j + " " + k, desk.lead(i, j, k), plain.lead(i, j, k));
                }
            }
        }
    }

    private static void moves(int n) {
        for (int heaps = 0; heaps <= n + 1; heaps++) {
            for (int s = 0; s < 6; s++) {
                fresh(n);
                same(n + ": deal " + heaps, desk.deal(heaps), plain.deal(heaps));
                same(n + ": perfect 0", desk.perfect(0), plain.perfect(0));
                same(n + ": perfect 1", desk.perfect(1), plain.perfect(1));
                same(n + ": behind", desk.behind(0, 1), plain.behind(0, 1));
                same(n + ": back", desk.back(0), plain.back(0));
                toldOf(n, s);
            }
        }
    }

    private static void toldOf(int n, int s) {
        for (int what = -1; what <= 4; what++) {
            same(n + ": shuffleTold " + s + " " + what, desk.shuffleTold(s, what), plain.shuffleTold(s, what));
        }
        for (int i = -1; i <= n; i++) {
            same(n + ": moves " + s + " " + i, desk.moves(s, i), plain.moves(s, i));
            for (long e = -1; e < 32; e++) {
                same(n + ": power " + s + " " + e + " " + i, desk.power(s, e, i), plain.power(s, e, i));
            }
            same(n + ": greatest power", desk.power(s, Long.MAX_VALUE, i), plain.power(s, Long.MAX_VALUE, i));
        }
    }

    private static void lotShuffles(int n) {
        for (int heaps = 1; heaps <= 11; heaps++) {
            fresh(n);
            int s = heaps == 11 ? desk.top() : desk.riffle(heaps);
            same("shuffle", s, heaps == 11 ? plain.top() : plain.riffle(heaps));
            for (int what = 0; what <= 1; what++) {
                for (int k = -1; k <= 7; k++) {
                    same(n + ": far of " + heaps + " " + k, desk.far(s, k, what), plain.far(s, k, what));
                    same(n + ": unlike of " + heaps + " " + k, desk.unlike(s, k, what), plain.unlike(s, k, what));
                }
                for (int i = -1; i <= n; i++) {
                    for (int j = -1; j <= n; j++) {
                        same(n + ": place of " + heaps + " " + i + " " + j,
                                desk.place(s, i, j, what), plain.place(s, i, j, what));
                    }
                }
            }
        }
    }

    private static void orders(int n) {
        for (int rank = 0; rank < FACTORIALS[n]; rank++) {
            fresh(n);
            same("ranked", desk.ranked(rank), plain.ranked(rank));
            for (int what = 0; what <= 2; what++) {
                same(n + ": packTold of rank " + rank, desk.packTold(0, what), plain.packTold(0, what));
            }
            for (int i = 0; i < n; i++) {
                same(n + ": card of rank " + rank, desk.card(0, i), plain.card(0, i));
            }
            same("move", desk.move(0), plain.move(0));
            same(n + ": rounds of rank " + rank, desk.shuffleTold(0, 2), plain.shuffleTold(0, 2));
            same(n + ": least power of rank " + rank, desk.shuffleTold(0, 3), plain.shuffleTold(0, 3));
            chances(n, rank);
        }
    }

    private static void chances(int n, int rank) {
        same("top", desk.top(), plain.top());
        for (int heaps = 1; heaps <= 8; heaps++) {
            same("riffle", desk.riffle(heaps), plain.riffle(heaps));
        }
        for (int s = 1; s <= 9; s++) {
            for (int k = -1; k <= 7; k++) {
                String call = n + ": chance of " + s + " " + k + " rank " + rank;
                same(call, desk.chance(s, k, 0, 0), plain.chance(s, k, 0, 0));
                same(call, desk.chance(s, k, 0, 1), plain.chance(s, k, 0, 1));
            }
        }
    }
}
