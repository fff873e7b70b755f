/** The boundaries that promises 30 to 36 name: ACTS, THE TRACE, counts, TRAYS, and KINDS taken. */
public final class ActAndTrayEdgesTest extends Edges {
    private static final int LAYS = 0, CUTS = 1, TURNS = 2;

    private ActAndTrayEdgesTest() {
        super("ActAndTrayEdgesTest", 30, 36);
    }

    public static void main(String[] args) {
        new ActAndTrayEdgesTest().run();
    }

    private void run() {
        acts();
        trays();
        copies();
        sentence(36, "BAD: k", this::takenKind);
        sentence(36, "-11: no such SHUFFLE", this::takenNothing);
        sentence(36, "KIND k, or one under that one (also by others between); -13", this::takenUnder);
        sentence(36, "its heaps", this::takenHeaps);
        end();
    }

    private void acts() {
        sentence(30, "0, and no TRACE then: no such SHUFFLE", this::actShuffle);
        sentence(30, "0, and no TRACE then: no such act", this::actNumber);
        sentence(30, "a number x (32 bits, wrapping)", this::actWraps);
        sentence(30, "or, if that has none, of the next KIND above that has one", this::actAbove);
        sentence(30, "super.lays(..): so from the KIND above the body's on", this::actSuper);
        sentence(30, "m is its number, h how many heaps", this::actNumbers);
        sentence(31, "NONE: none such", this::traceNone);
        sentence(31, "the bodies that ran in the latest act()", this::traceLatest);
        sentence(31, "the first 40 are kept", this::traceKept);
        sentence(32, "0 CARDS, 1 PACKS, 2 SHUFFLES, 3 bodies. BAD", this::countWhat);
        sentence(32, "CARDS (1 .. 10), PACKS (12 at most), SHUFFLES (10 at most)", this::countMost);
        sentence(32, "bodies of THE TRACE (all that ran)", this::countBodies);
    }

    private void trays() {
        sentence(33, "BAD: no such TRAY", this::trayNumber);
        sentence(33, "BAD: no such sort", this::traySort);
        sentence(33, "BAD: n above 40", this::trayMost);
        sentence(33, "-14", this::trayBelow);
        sentence(33, "missing (sort -1: n does not matter)", this::trayMissing);
        sentence(33, "a row of n of a sort, all 0", this::trayZeros);
        sentence(33, "BAD ahead of -14", this::trayInOrder);
        sentence(34, "BAD: no such TRAY", this::cellTray);
        sentence(34, "-11", this::cellNothing);
        sentence(34, "-12", this::cellOutside);
        sentence(34, "BAD ahead of -11 ahead of -12", this::cellInOrder);
        sentence(34, "of bytes its lowest 8 bits", this::cellBytes);
        sentence(34, "of shorts its lowest 16 bits", this::cellShorts);
        sentence(34, "of ints as it is", this::cellInts);
    }

    private void copies() {
        sentence(35, "BAD: no such TRAYS", this::copyTrays);
        sentence(35, "-11", this::copyNothing);
        sentence(35, "-13: they are not of one sort", this::copyOtherSort);
        sentence(35, "-12: n, i or j is below 0", this::copyBelow);
        sentence(35, "-12: beyond either's end", this::copyBeyond);
        sentence(35, "-12, of sums that wrap", this::copyWraps);
        sentence(35, "n 0", this::copyNone);
        sentence(35, "as they all were before", this::copySame);
        sentence(35, "BAD ahead of -11 ahead of -13 ahead of -12", this::copyInOrder);
    }

    /** SHUFFLES 0 .. 4, one of each KIND in turn, of six CARDS. */
    private void oneOfEach() {
        fresh(6);
        desk.pack();
        desk.move(0);
        desk.perfect(1);
        desk.deal(3);
        desk.riffle(5);
        desk.top();
    }

    /** THE TRACE with a 1 ahead of it, two digits for each body, eight bodies at most. */
    private long traceCode() {
        long code = 1;
        for (int i = 0; i < desk.count(3); i++) {
            code = code * 100 + desk.trace(i);
        }
        return code;
    }

    // ---- 30

    private void actShuffle() {
        outside("no shuffles", desk.act(0, LAYS, 5), 0);
        for (int i = 0; i < 10; i++) {
            desk.perfect(0);
        }
        inside("the first", desk.act(0, LAYS, 5), 5);
        inside("the last", desk.act(9, LAYS, 5), 14);
        for (int wrong : new int[] {-1, 10, LOWEST, HIGHEST}) {
            inside("there is a trace", desk.act(9, CUTS, 5), 29);
            inside("there is a trace", desk.count(3), 3);
            outside("shuffle " + wrong, desk.act(wrong, CUTS, 5), 0);
            inside("no trace", desk.count(3), 0);
            inside("no trace", desk.trace(0), NONE);
        }
    }

    private void actNumber() {
        oneOfEach();
        inside("act 0", desk.act(0, 0, 5), 5);
        inside("act 1", desk.act(0, 1, 5), 10);
        inside("act 2", desk.act(0, 2, 5), 10 ^ 6);
        for (int s = 0; s < 5; s++) {
            for (int wrong : new int[] {-1, 3, LOWEST, HIGHEST}) {
                desk.act(s, TURNS, 5);
                outside("act " + wrong + " of " + s, desk.act(s, wrong, 5), 0);
                inside("no trace", desk.count(3), 0);
                inside("no trace", desk.trace(0), NONE);
            }
        }
    }

    private void actWraps() {
        oneOfEach();
        inside("up to the highest", desk.act(1, LAYS, HIGHEST - 1), HIGHEST);
        outside("one further", desk.act(1, LAYS, HIGHEST), LOWEST);
        inside("twice up to the highest", desk.act(0, CUTS, (1 << 30) - 1), HIGHEST - 1);
        outside("twice one further", desk.act(0, CUTS, 1 << 30), LOWEST);
        inside("x + 1 up to the highest", desk.act(0, TURNS, HIGHEST - 1), -4 ^ HIGHEST);
        outside("x + 1 one further", desk.act(0, TURNS, HIGHEST), -2 ^ LOWEST);
        inside("down to the lowest", desk.act(2, LAYS, LOWEST + 1), LOWEST);
        outside("less one further", desk.act(2, LAYS, LOWEST), HIGHEST);
        // 3 * 715827883 is one more than 2 to the 31; then 4 - 6
        inside("thrice below the end", desk.act(4, LAYS, 715827882), 2147483646 - 2);
        outside("thrice beyond the end", desk.act(4, LAYS, 715827883), HIGHEST);
        // 5 * (x + 3 - 5) + (x + 3 - 5) is six times x - 2
        outside("riffle cuts", desk.act(3, CUTS, (1 << 29) + 2), 6 * (1 << 29));
    }

    private void actAbove() {
        oneOfEach();
        // MOVE has all, PERFECT's lays is MOVE's, RIFFLE's lays is DEAL's, DEAL's cuts is MOVE's
        inside("move lays", actCode(0, LAYS), code("10"));
        outside("perfect lays", actCode(1, LAYS), code("10"));
        inside("deal lays", actCode(2, LAYS), code("3010"));
        outside("riffle lays", actCode(3, LAYS), code("3010"));
        inside("top lays", actCode(4, LAYS), code("503010"));
        outside("deal cuts", actCode(2, CUTS), code("113010"));
        outside("top cuts", actCode(4, CUTS), code("40115030103010"));
        outside("perfect turns", actCode(1, TURNS), code("1220111010"));
        outside("deal turns", actCode(2, TURNS), code("31121130103010"));
    }

    private long actCode(int shuffle, int act) {
        desk.act(shuffle, act, 7);
        return traceCode();
    }

    private void actSuper() {
        oneOfEach();
        inside("perfect: above is MOVE", actCode(1, CUTS), code("201110"));
        outside("top's lays pass over RIFFLE to DEAL", desk.act(4, LAYS, 7), 21 + 4 - 6);
        // 40's super.lays is DEAL's, though 11's lays is TOP's
        outside("top's cuts", desk.act(4, CUTS, 7), 19 * 6 + (7 + 4 - 6));
        int cuts = 119;
        int turns = (cuts ^ (24 + 4 - 6)) * 2;
        outside("top's turns", desk.act(4, TURNS, 7), cuts - turns);
        inside("bodies", desk.count(3), 20);
        inside("the first", desk.trace(0), 51);
        inside("what stands further left begins first", desk.trace(1), 40);
        inside("the right one then", desk.trace(8), 31);
    }

    private void actNumbers() {
        fresh(1);
        for (int i = 0; i < 10; i++) {
            desk.top();
        }
        inside("number 0, heaps 1", desk.act(0, LAYS, 0), -1);
        inside("number 9, heaps 1", desk.act(9, LAYS, 0), 8);
        fresh(10);
        desk.deal(10);
        desk.riffle(10);
        desk.top();
        desk.perfect(0);
        inside("deal of 10", desk.act(0, CUTS, 20), 100);
        inside("riffle of 10", desk.act(1, LAYS, 20), 11);
        inside("top of 10", desk.act(2, LAYS, 20), 52);
        inside("perfect: 2", desk.act(3, CUTS, 20), 47);
        outside("no number 4", desk.act(4, LAYS, 20), 0);
    }

    // ---- 31

    private void traceNone() {
        outside("no act yet", desk.trace(0), NONE);
        oneOfEach();
        desk.act(4, LAYS, 1);
        inside("the first", desk.trace(0), 50);
        inside("the last", desk.trace(2), 10);
        for (int none : new int[] {3, -1, 39, 40, 41, LOWEST, HIGHEST}) {
            outside("trace " + none, desk.trace(none), NONE);
        }
    }

    private void traceLatest() {
        oneOfEach();
        desk.act(4, TURNS, 1);
        inside("a long one", desk.trace(19), 10);
        desk.act(0, LAYS, 1);
        inside("a short one behind it", desk.trace(0), 10);
        outside("nothing of the long one", desk.trace(1), NONE);
        desk.does(0, 0);
        desk.draw(3, 0);
        inside("other calls keep it", traceCode(), code("10"));
        inside("so does a refusal", desk.begin(0), BAD);
        inside("so does a refusal", traceCode(), code("10"));
        desk.begin(5);
        inside("so does begin", traceCode(), code("10"));
        desk.act(0, LAYS, 1);
        outside("no such shuffle any more", desk.trace(0), NONE);
    }

    /** No act runs more than 20 bodies, so all are kept: looked at for each KIND and act. */
    private void traceKept() {
        oneOfEach();
        int[][] ran = {{1, 2, 4}, {1, 3, 5}, {2, 3, 7}, {2, 6, 10}, {3, 7, 20}};
        for (int s = 0; s < 5; s++) {
            for (int act = 0; act < 3; act++) {
                desk.act(s, act, 1);
                inside("bodies of " + s + " " + act, desk.count(3), ran[s][act]);
                inside("the last one", desk.trace(ran[s][act] - 1), 10);
                outside("behind it", desk.trace(ran[s][act]), NONE);
                outside("the fortieth", desk.trace(39), NONE);
                outside("behind the fortieth", desk.trace(40), NONE);
            }
        }
    }

    // ---- 32

    private void countWhat() {
        oneOfEach();
        desk.pack();
        desk.act(0, TURNS, 1);
        inside("what 0", desk.count(0), 6);
        inside("what 1", desk.count(1), 2);
        inside("what 2", desk.count(2), 5);
        inside("what 3", desk.count(3), 4);
        for (int wrong : new int[] {-1, 4, LOWEST, HIGHEST}) {
            outside("what " + wrong, desk.count(wrong), BAD);
        }
    }

    private void countMost() {
        fresh(10);
        inside("no packs", desk.count(1), 0);
        inside("no shuffles", desk.count(2), 0);
        fillPacks();
        fillShuffles();
        outside("a pack more", desk.pack(), FULL);
        outside("a shuffle more", desk.top(), FULL);
        outside("a card more", desk.begin(11), BAD);
        inside("cards", desk.count(0), 10);
        inside("packs", desk.count(1), 12);
        inside("shuffles", desk.count(2), 10);
    }

    private void countBodies() {
        oneOfEach();
        inside("none yet", desk.count(3), 0);
        desk.act(4, TURNS, 1);
        inside("the most", desk.count(3), 20);
        desk.act(4, 3, 1);
        inside("no act", desk.count(3), 0);
        outside("what 4", desk.count(4), BAD);
    }

    // ---- 33

    private void trayNumber() {
        for (int tray = 0; tray < 4; tray++) {
            inside("tray " + tray, desk.tray(tray, 2, 1), 1);
            inside("it is there", desk.cell(tray, 0, 5), 1);
        }
        for (int wrong : new int[] {-1, 4, LOWEST, HIGHEST}) {
            outside("tray " + wrong, desk.tray(wrong, 2, 1), BAD);
            outside("tray " + wrong + ", missing", desk.tray(wrong, -1, 1), BAD);
        }
    }

    private void traySort() {
        for (int sort = -1; sort < 3; sort++) {
            inside("sort " + sort, desk.tray(0, sort, 1), 1);
        }
        for (int wrong : new int[] {-2, 3, LOWEST, HIGHEST}) {
            outside("sort " + wrong, desk.tray(0, wrong, 1), BAD);
        }
        inside("ints still", desk.told(0, 2, 0), OUTSIDE);
    }

    private void trayMost() {
        for (int sort = 0; sort < 3; sort++) {
            inside("39", desk.tray(sort, sort, 39), 1);
            outside("item 39", desk.cell(sort, 39, 1), OUTSIDE);
            inside("40", desk.tray(sort, sort, 40), 1);
            inside("item 39", desk.cell(sort, 39, 1), 1);
            outside("item 40", desk.cell(sort, 40, 1), OUTSIDE);
            outside("41", desk.tray(sort, sort, 41), BAD);
            outside("highest", desk.tray(sort, sort, HIGHEST), BAD);
            inside("40 still", desk.cell(sort, 39, 1), 1);
        }
    }

    private void trayBelow() {
        for (int sort = 0; sort < 3; sort++) {
            inside("1", desk.tray(0, sort, 1), 1);
            outside("-1", desk.tray(0, sort, -1), BELOW);
            outside("lowest", desk.tray(0, sort, LOWEST), BELOW);
            inside("1 still", desk.cell(0, 0, 1), 1);
            inside("0", desk.tray(0, sort, 0), 1);
            outside("no item", desk.cell(0, 0, 1), OUTSIDE);
        }
    }

    private void trayMissing() {
        for (int n : new int[] {0, 40, 41, -1, LOWEST, HIGHEST}) {
            desk.tray(2, 0, 3);
            inside("it is there", desk.cell(2, 0, 1), 1);
            inside("missing, n " + n, desk.tray(2, -1, n), 1);
            outside("nothing there", desk.cell(2, 0, 1), NOTHING);
            inside("missing once more", desk.tray(2, -1, n), 1);
        }
    }

    private void trayZeros() {
        fresh(1);
        for (int sort = 0; sort < 3; sort++) {
            desk.begin(1);
            desk.tray(0, sort, 4);
            for (int i = 0; i < 4; i++) {
                desk.cell(0, i, 1);
                outside("not 0", desk.told(0, sort, i), STATE);
            }
            desk.tray(0, sort, 4);
            for (int i = 0; i < 4; i++) {
                inside("0 again", desk.told(0, sort, i), i);
            }
            // smaller, then as large as it was: nothing of the old items comes back
            desk.cell(0, 3, 1);
            desk.tray(0, sort, 2);
            desk.tray(0, sort, 4);
            inside("0 again", desk.told(0, sort, 3), 4);
            desk.cell(0, 3, 1);
            desk.tray(0, -1, 0);
            desk.tray(0, sort, 4);
            inside("0 again", desk.told(0, sort, 3), 5);
        }
    }

    private void trayInOrder() {
        inside("-14 alone", desk.tray(0, 0, -1), BELOW);
        outside("no TRAY ahead of -14", desk.tray(4, 0, -1), BAD);
        outside("no sort ahead of -14", desk.tray(0, 3, -1), BAD);
        outside("no sort and above 40", desk.tray(0, -2, 41), BAD);
        inside("missing still", desk.cell(0, 0, 1), NOTHING);
    }

    // ---- 34

    private void cellTray() {
        for (int tray = 0; tray < 4; tray++) {
            desk.tray(tray, 0, 1);
            inside("tray " + tray, desk.cell(tray, 0, 1), 1);
        }
        for (int wrong : new int[] {-1, 4, LOWEST, HIGHEST}) {
            outside("tray " + wrong, desk.cell(wrong, 0, 1), BAD);
        }
    }

    private void cellNothing() {
        outside("missing at first", desk.cell(0, 0, 1), NOTHING);
        desk.tray(0, 0, 1);
        inside("there", desk.cell(0, 0, 1), 1);
        desk.tray(0, -1, 1);
        outside("missing again", desk.cell(0, 0, 1), NOTHING);
    }

    private void cellOutside() {
        for (int n : new int[] {1, 2, 40}) {
            desk.tray(0, 1, n);
            inside("the first", desk.cell(0, 0, 1), 1);
            inside("the last", desk.cell(0, n - 1, 1), 1);
            for (int wrong : new int[] {-1, n, n + 1, LOWEST, HIGHEST}) {
                outside("item " + wrong, desk.cell(0, wrong, 1), OUTSIDE);
            }
        }
        desk.tray(0, 1, 0);
        outside("an empty tray", desk.cell(0, 0, 1), OUTSIDE);
    }

    private void cellInOrder() {
        desk.tray(0, 0, 1);
        inside("-12 alone", desk.cell(0, 1, 1), OUTSIDE);
        outside("-11 ahead of -12", desk.cell(1, -1, 1), NOTHING);
        outside("-11 ahead of -12", desk.cell(1, 40, 1), NOTHING);
        outside("BAD ahead of -12", desk.cell(4, -1, 1), BAD);
    }

    /** Of one CARD, item 0 tells a PACK if it is 0; of two CARDS, 0 and 1 do. */
    private void readsAs(int tray, int sort, int v, boolean isZero) {
        desk.begin(1);
        desk.cell(tray, 0, v);
        if (isZero) {
            inside(v + " is 0", desk.told(tray, sort, 0), 0);
        } else {
            outside(v + " is not 0", desk.told(tray, sort, 0), STATE);
        }
    }

    private void readsAsOne(int tray, int sort, int v, boolean isOne) {
        desk.begin(2);
        desk.cell(tray, 0, v);
        desk.cell(tray, 1, 0);
        if (isOne) {
            inside(v + " is 1", desk.told(tray, sort, 0), 0);
            inside(v + " is 1", orderOf(0), code("10"));
        } else {
            outside(v + " is not 1", desk.told(tray, sort, 0), STATE);
        }
    }

    private void cellBytes() {
        desk.tray(0, 0, 2);
        for (int v : new int[] {0, 256, 512, -256, LOWEST, 65536}) {
            readsAs(0, 0, v, true);
            readsAsOne(0, 0, v + 1, true);
        }
        for (int v : new int[] {127, 128, 255, -128, -1, HIGHEST}) {
            readsAs(0, 0, v, false);
            readsAsOne(0, 0, v, false);
        }
    }

    private void cellShorts() {
        desk.tray(0, 1, 2);
        for (int v : new int[] {0, 65536, 131072, -65536, LOWEST}) {
            readsAs(0, 1, v, true);
            readsAsOne(0, 1, v + 1, true);
        }
        for (int v : new int[] {255, 256, 32767, 32768, 65535, -32768, -1, -256, HIGHEST}) {
            readsAs(0, 1, v, false);
            readsAsOne(0, 1, v, false);
        }
    }

    private void cellInts() {
        desk.tray(0, 2, 2);
        readsAs(0, 2, 0, true);
        readsAsOne(0, 2, 1, true);
        for (int v : new int[] {255, 256, 257, 65535, 65536, 65537, -1, -65536, -65535, LOWEST, LOWEST + 1, HIGHEST}) {
            readsAs(0, 2, v, false);
            readsAsOne(0, 2, v, false);
        }
    }

    // ---- 35

    /** TRAYS 0 and 1 of one sort, 0 with an order of five CARDS, 1 with seven items. */
    private void twoTrays(int sort) {
        fresh(5);
        trayOf(0, sort, 3, 1, 4, 0, 2);
        desk.tray(1, sort, 7);
    }

    private void tellsOrder(String what, int tray, int sort, int from, String order) {
        int pack = desk.told(tray, sort, from);
        inside(what + " is told", pack, desk.count(1) - 1);
        inside(what, orderOf(pack), code(order));
    }

    private void copyTrays() {
        for (int tray = 0; tray < 4; tray++) {
            desk.tray(tray, 0, 1);
        }
        inside("0 to 3", desk.copy(0, 0, 3, 0, 1), 1);
        inside("3 to 0", desk.copy(3, 0, 0, 0, 1), 1);
        for (int wrong : new int[] {-1, 4, LOWEST, HIGHEST}) {
            outside("from " + wrong, desk.copy(wrong, 0, 0, 0, 1), BAD);
            outside("to " + wrong, desk.copy(0, 0, wrong, 0, 1), BAD);
        }
        outside("both", desk.copy(4, 0, 4, 0, 1), BAD);
    }

    private void copyNothing() {
        desk.tray(0, 0, 1);
        inside("to itself", desk.copy(0, 0, 0, 0, 1), 1);
        outside("from a missing one", desk.copy(1, 0, 0, 0, 1), NOTHING);
        outside("to a missing one", desk.copy(0, 0, 1, 0, 1), NOTHING);
        outside("a missing one to itself", desk.copy(1, 0, 1, 0, 0), NOTHING);
        desk.tray(1, 0, 1);
        inside("there now", desk.copy(0, 0, 1, 0, 1), 1);
    }

    private void copyOtherSort() {
        for (int sort = 0; sort < 3; sort++) {
            for (int other = 0; other < 3; other++) {
                desk.tray(0, sort, 2);
                desk.tray(1, other, 2);
                if (sort == other) {
                    inside("of one sort", desk.copy(0, 0, 1, 0, 2), 2);
                } else {
                    outside(sort + " to " + other, desk.copy(0, 0, 1, 0, 2), OTHER);
                    outside(sort + " to " + other + ", none", desk.copy(0, 0, 1, 0, 0), OTHER);
                }
            }
        }
    }

    private void copyBelow() {
        for (int sort = 0; sort < 3; sort++) {
            twoTrays(sort);
            inside("all 0", desk.copy(0, 0, 1, 0, 0), 0);
            outside("n -1", desk.copy(0, 0, 1, 0, -1), OUTSIDE);
            outside("n -1 from further on", desk.copy(0, 2, 1, 2, -1), OUTSIDE);
            outside("i -1", desk.copy(0, -1, 1, 0, 1), OUTSIDE);
            outside("j -1", desk.copy(0, 0, 1, -1, 1), OUTSIDE);
            outside("i -1, n 0", desk.copy(0, -1, 1, 0, 0), OUTSIDE);
            outside("j -1, n 0", desk.copy(0, 0, 1, -1, 0), OUTSIDE);
        }
    }

    private void copyBeyond() {
        for (int sort = 0; sort < 3; sort++) {
            twoTrays(sort);
            inside("all of the source", desk.copy(0, 0, 1, 0, 5), 5);
            tellsOrder("all of the source", 1, sort, 0, "31402");
            inside("up to the other's end", desk.copy(0, 0, 1, 2, 5), 5);
            tellsOrder("up to the other's end", 1, sort, 2, "31402");
            outside("one more than the source", desk.copy(0, 0, 1, 0, 6), OUTSIDE);
            outside("one further in the source", desk.copy(0, 1, 1, 0, 5), OUTSIDE);
            outside("one further in the other", desk.copy(0, 0, 1, 3, 5), OUTSIDE);
            inside("the last item", desk.copy(0, 4, 1, 6, 1), 1);
            outside("behind the source's last item", desk.copy(0, 5, 1, 0, 1), OUTSIDE);
            outside("behind the other's last item", desk.copy(0, 0, 1, 7, 1), OUTSIDE);
            tellsOrder("the source stays", 0, sort, 0, "31402");
        }
    }

    private void copyWraps() {
        twoTrays(2);
        inside("all well", desk.copy(0, 1, 1, 1, 4), 4);
        for (int far : new int[] {HIGHEST, HIGHEST - 1, LOWEST, LOWEST + 1}) {
            outside("i " + far, desk.copy(0, far, 1, 1, 4), OUTSIDE);
            outside("j " + far, desk.copy(0, 1, 1, far, 4), OUTSIDE);
            outside("n " + far, desk.copy(0, 1, 1, 1, far), OUTSIDE);
            outside("i, n " + far, desk.copy(0, far, 1, 1, far), OUTSIDE);
            outside("j, n " + far, desk.copy(0, 1, 1, far, far), OUTSIDE);
            outside("all " + far, desk.copy(0, far, 1, far, far), OUTSIDE);
        }
        outside("their sum is 0", desk.copy(0, LOWEST, 1, LOWEST, LOWEST), OUTSIDE);
    }

    private void copyNone() {
        twoTrays(1);
        inside("from the source's end", desk.copy(0, 5, 1, 0, 0), 0);
        inside("to the other's end", desk.copy(0, 0, 1, 7, 0), 0);
        outside("beyond the source's end", desk.copy(0, 6, 1, 0, 0), OUTSIDE);
        outside("beyond the other's end", desk.copy(0, 0, 1, 8, 0), OUTSIDE);
        desk.tray(2, 1, 0);
        inside("of an empty one", desk.copy(2, 0, 2, 0, 0), 0);
        outside("one of an empty one", desk.copy(2, 0, 2, 0, 1), OUTSIDE);
        tellsOrder("nothing is changed", 0, 1, 0, "31402");
    }

    private void copySame() {
        for (int sort = 0; sort < 3; sort++) {
            fresh(5);
            trayOf(0, sort, 3, 1, 4, 0, 2, 9);
            inside("down by one", desk.copy(0, 0, 0, 1, 5), 5);
            tellsOrder("down by one", 0, sort, 1, "31402");
            inside("up by one", desk.copy(0, 1, 0, 0, 5), 5);
            tellsOrder("up by one", 0, sort, 0, "31402");
            inside("onto itself", desk.copy(0, 0, 0, 0, 6), 6);
            tellsOrder("onto itself", 0, sort, 0, "31402");
            outside("one too many", desk.copy(0, 0, 0, 1, 6), OUTSIDE);
        }
    }

    private void copyInOrder() {
        twoTrays(0);
        desk.tray(2, 1, 3);
        inside("-12 alone", desk.copy(0, -1, 1, 0, 1), OUTSIDE);
        outside("-13 ahead of -12", desk.copy(0, -1, 2, 0, 1), OTHER);
        outside("-13 ahead of -12", desk.copy(2, 0, 0, 0, 99), OTHER);
        outside("-11 ahead of -12", desk.copy(0, 0, 3, -1, 1), NOTHING);
        outside("-11 ahead of -12", desk.copy(3, 0, 0, 0, -1), NOTHING);
        outside("BAD ahead of -11", desk.copy(3, 0, 4, 0, 1), BAD);
        outside("BAD ahead of -11", desk.copy(-1, 0, 3, 0, 1), BAD);
        outside("BAD ahead of -12", desk.copy(4, -1, 0, -1, -1), BAD);
    }

    // ---- 36

    private void takenKind() {
        oneOfEach();
        inside("kind 0", desk.taken(4, 0), 6);
        inside("kind 4", desk.taken(4, 4), 6);
        for (int wrong : new int[] {-1, 5, LOWEST, HIGHEST}) {
            outside("kind " + wrong, desk.taken(4, wrong), BAD);
            outside("BAD ahead of -11", desk.taken(9, wrong), BAD);
        }
    }

    private void takenNothing() {
        outside("no shuffles", desk.taken(0, 0), NOTHING);
        fillShuffles();
        inside("the first", desk.taken(0, 3), 2);
        inside("the last", desk.taken(9, 3), 2);
        for (int wrong : new int[] {-1, 10, LOWEST, HIGHEST}) {
            for (int k = 0; k < 5; k++) {
                outside("shuffle " + wrong, desk.taken(wrong, k), NOTHING);
            }
        }
        desk.begin(4);
        outside("no shuffles any more", desk.taken(0, 3), NOTHING);
    }

    private void takenUnder() {
        oneOfEach();
        String[] under = {"1....", "11...", "1.1..", "1.11.", "1.111"};
        int[] heaps = {2, 2, 3, 5, 6};
        for (int s = 0; s < 5; s++) {
            for (int k = 0; k < 5; k++) {
                if (under[s].charAt(k) == '1') {
                    inside(s + " is of kind " + k, desk.taken(s, k), heaps[s]);
                } else {
                    outside(s + " is not of kind " + k, desk.taken(s, k), OTHER);
                }
            }
        }
    }

    private void takenHeaps() {
        fresh(10);
        desk.deal(1);
        desk.deal(10);
        desk.riffle(1);
        desk.riffle(10);
        desk.top();
        int[] heaps = {1, 10, 1, 10, 10};
        for (int s = 0; s < 5; s++) {
            inside("taken for a deal", desk.taken(s, 2), heaps[s]);
            inside("taken for a move", desk.taken(s, 0), heaps[s]);
        }
        desk.begin(1);
        desk.top();
        inside("top of one card", desk.taken(0, 4), 1);
        outside("no perfect one", desk.taken(0, 1), OTHER);
    }
}
