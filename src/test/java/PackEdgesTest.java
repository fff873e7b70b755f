/** The boundaries that promises 1 to 7 name: a new object, begin, and PACKS. */
public final class PackEdgesTest extends Edges {
    private PackEdgesTest() {
        super("PackEdgesTest", 1, 7);
    }

    public static void main(String[] args) {
        new PackEdgesTest().run();
    }

    private void run() {
        sentence(1, "4 CARDS", this::newCards);
        sentence(1, "no PACKS", this::newPacks);
        sentence(1, "no SHUFFLES", this::newShuffles);
        sentence(1, "s is the seed of the DESK (0 at first)", this::newSeed);
        sentence(1, "TRAYS 0 .. 3 are missing (as all are at first)", this::newTrays);
        sentence(1, "THE TRACE of a desk without an act", this::newTrace);
        sentence(2, "The DESK has n CARDS (1 .. 10)", this::beginCards);
        sentence(2, "no PACKS any more", this::beginPacks);
        sentence(2, "no SHUFFLES any more", this::beginShuffles);
        sentence(2, "SEED, TRAYS stay", this::beginKeeps);
        sentence(3, "A PACK in the first order", this::packOrder);
        sentence(3, "PACKS (12 at most); FULL", this::packFull);
        sentence(4, "BAD: there is none such", this::rankedBad);
        sentence(4, "A PACK with a RANK", this::rankedOrder);
        sentence(4, "FULL", this::rankedFull);
        sentence(4, "BAD ahead of FULL", this::rankedBoth);
        sentence(5, "BAD: no such TRAY", this::toldTray);
        sentence(5, "BAD: no such sort", this::toldSort);
        sentence(5, "-13", this::toldOtherSort);
        sentence(5, "-11", this::toldNothing);
        sentence(5, "-12", this::toldOutside);
        sentence(5, "-12, of an empty or short TRAY", this::toldShort);
        sentence(5, "STATE: a number is no CARD", this::toldNoCard);
        sentence(5, "STATE: told twice", this::toldTwice);
        sentence(5, "FULL", this::toldFull);
        sentence(5, "these in this order", this::toldInOrder);
        sentence(6, "BAD: no such PACK", this::cardPack);
        sentence(6, "BAD: no such place", this::cardPlace);
        sentence(7, "BAD: no such PACK", this::packToldPack);
        sentence(7, "0 its RANK, 1 RUNS, 2 the place of CARD 0. BAD", this::packToldWhat);
        sentence(7, "THE RANK: of two the one that has the lower CARD", this::packToldRank);
        sentence(7, "A RUN (others may lie between)", this::packToldRuns);
        sentence(7, "the place of CARD 0", this::packToldPlace);
        end();
    }

    // ---- 1

    private void newCards() {
        inside("count 0", desk.count(0), 4);
        desk.pack();
        inside("the last card", desk.card(0, 3), 3);
        outside("behind the last card", desk.card(0, 4), BAD);
        inside("ranks below 4!", desk.ranked(23), 1);
        outside("rank 4!", desk.ranked(24), BAD);
    }

    private void newPacks() {
        inside("count 1", desk.count(1), 0);
        outside("card of pack 0", desk.card(0, 0), BAD);
        inside("the first pack is 0", desk.pack(), 0);
        inside("card of pack 0", desk.card(0, 0), 0);
    }

    private void newShuffles() {
        inside("count 2", desk.count(2), 0);
        outside("shuffle 0", desk.shuffleTold(0, 0), BAD);
        inside("the first shuffle is 0", desk.top(), 0);
        inside("shuffle 0", desk.shuffleTold(0, 0), 4);
    }

    private void newSeed() {
        inside("what it was", desk.seed(1), 0);
        outside("another object has its own", new ShuffleDesk().seed(5), 0);
        inside("not the other's", desk.seed(0), 1);
    }

    private void newTrays() {
        for (int tray = 0; tray < 4; tray++) {
            inside("tray " + tray, desk.cell(tray, 0, 0), NOTHING);
        }
        outside("tray -1", desk.cell(-1, 0, 0), BAD);
        outside("tray 4", desk.cell(4, 0, 0), BAD);
    }

    private void newTrace() {
        inside("count 3", desk.count(3), 0);
        outside("trace 0", desk.trace(0), NONE);
    }

    // ---- 2

    private void beginCards() {
        for (int n : new int[] {1, 2, 9, 10}) {
            inside("begin " + n, desk.begin(n), 1);
            inside("cards", desk.count(0), n);
        }
        for (int wrong : new int[] {0, 11, -1, LOWEST, HIGHEST}) {
            outside("begin " + wrong, desk.begin(wrong), BAD);
            inside("cards still", desk.count(0), 10);
        }
    }

    private void beginPacks() {
        fillPacks();
        inside("the last pack", desk.card(11, 0), 0);
        inside("begin with as many cards", desk.begin(4), 1);
        inside("count 1", desk.count(1), 0);
        outside("the first pack", desk.card(0, 0), BAD);
        outside("the last pack", desk.card(11, 0), BAD);
        inside("numbered from 0 again", desk.pack(), 0);
    }

    private void beginShuffles() {
        fillShuffles();
        inside("the last shuffle", desk.shuffleTold(9, 0), 3);
        inside("begin with as many cards", desk.begin(4), 1);
        inside("count 2", desk.count(2), 0);
        outside("the first shuffle", desk.shuffleTold(0, 0), BAD);
        outside("the last shuffle", desk.shuffleTold(9, 0), BAD);
        inside("numbered from 0 again", desk.top(), 0);
        inside("a shuffle of the new desk", desk.shuffleTold(0, 0), 4);
    }

    private void beginKeeps() {
        desk.seed(77);
        trayOf(0, 0, 1, 0);
        trayOf(1, 1, 1, 0);
        trayOf(2, 2, 1, 0);
        inside("begin 2", desk.begin(2), 1);
        for (int tray = 0; tray < 3; tray++) {
            inside("the items of tray " + tray, desk.told(tray, tray, 0), tray);
            inside("the items of tray " + tray, orderOf(tray), code("10"));
            outside("the size of tray " + tray, desk.cell(tray, 2, 0), OUTSIDE);
        }
        outside("missing still", desk.cell(3, 0, 0), NOTHING);
        inside("the seed", desk.seed(0), 77);
    }

    // ---- 3

    private void packOrder() {
        for (int n = 1; n <= 10; n++) {
            fresh(n);
            inside("pack", desk.pack(), 0);
            inside("its order", orderOf(0), code(firstOrder(n)));
            outside("behind its last card", desk.card(0, n), BAD);
        }
    }

    private void packFull() {
        for (int i = 0; i < 12; i++) {
            inside("pack " + i, desk.pack(), i);
        }
        outside("a thirteenth", desk.pack(), FULL);
        inside("packs", desk.count(1), 12);
        outside("no pack 12", desk.card(12, 0), BAD);
    }

    // ---- 4

    private void rankedBad() {
        for (int n = 1; n <= 10; n++) {
            fresh(n);
            inside("rank 0 of " + n, desk.ranked(0), 0);
            inside("the last rank of " + n, desk.ranked(factorial(n) - 1), 1);
            outside("rank " + n + "!", desk.ranked(factorial(n)), BAD);
            outside("rank -1", desk.ranked(-1), BAD);
            inside("packs", desk.count(1), 2);
        }
        outside("lowest", desk.ranked(LOWEST), BAD);
        outside("highest", desk.ranked(HIGHEST), BAD);
    }

    private void rankedOrder() {
        for (int n = 1; n <= 10; n++) {
            fresh(n);
            desk.ranked(0);
            inside("rank 0 of " + n, orderOf(0), code(firstOrder(n)));
            desk.ranked(factorial(n) - 1);
            inside("the last rank of " + n, orderOf(1), code(lastOrder(n)));
            outside("behind its last card", desk.card(1, n), BAD);
        }
        fresh(4);
        desk.ranked(5);
        inside("the last with card 0 on top", orderOf(0), code("0321"));
        desk.ranked(6);
        inside("the first with card 1 on top", orderOf(1), code("1023"));
    }

    private void rankedFull() {
        for (int i = 0; i < 12; i++) {
            inside("ranked " + i, desk.ranked(i), i);
        }
        outside("a thirteenth", desk.ranked(0), FULL);
        outside("a thirteenth", desk.ranked(23), FULL);
        inside("packs", desk.count(1), 12);
    }

    private void rankedBoth() {
        fillPacks();
        inside("rank 23, full", desk.ranked(23), FULL);
        outside("rank 24, full", desk.ranked(24), BAD);
        outside("rank -1, full", desk.ranked(-1), BAD);
    }

    // ---- 5

    private void toldTray() {
        fresh(2);
        for (int tray : new int[] {0, 3}) {
            trayOf(tray, 0, 1, 0);
            inside("tray " + tray, desk.told(tray, 0, 0), desk.count(1) - 1);
        }
        for (int wrong : new int[] {-1, 4, LOWEST, HIGHEST}) {
            outside("tray " + wrong, desk.told(wrong, 0, 0), BAD);
        }
        inside("packs", desk.count(1), 2);
    }

    private void toldSort() {
        fresh(2);
        for (int sort = 0; sort < 3; sort++) {
            trayOf(0, sort, 1, 0);
            inside("sort " + sort, desk.told(0, sort, 0), sort);
        }
        for (int wrong : new int[] {-1, 3, LOWEST, HIGHEST}) {
            outside("sort " + wrong, desk.told(0, wrong, 0), BAD);
            outside("sort " + wrong + " of a missing tray", desk.told(1, wrong, 0), BAD);
        }
    }

    private void toldOtherSort() {
        fresh(2);
        for (int sort = 0; sort < 3; sort++) {
            trayOf(sort, sort, 1, 0);
            for (int taken = 0; taken < 3; taken++) {
                if (taken == sort) {
                    inside("taken for what it is", desk.told(sort, taken, 0), sort);
                } else {
                    outside(sort + " taken for " + taken, desk.told(sort, taken, 0), OTHER);
                }
            }
        }
        desk.tray(3, 0, 0);
        outside("an empty one is of a sort too", desk.told(3, 1, 0), OTHER);
    }

    private void toldNothing() {
        fresh(1);
        for (int sort = 0; sort < 3; sort++) {
            outside("missing at first", desk.told(0, sort, 0), NOTHING);
        }
        desk.tray(0, 2, 1);
        inside("there now", desk.told(0, 2, 0), 0);
        desk.tray(0, -1, 1);
        for (int sort = 0; sort < 3; sort++) {
            outside("missing again", desk.told(0, sort, 0), NOTHING);
        }
    }

    private void toldOutside() {
        fresh(3);
        trayOf(0, 1, 2, 1, 0, 2, 1);
        for (int i = 0; i <= 2; i++) {
            inside("from " + i, desk.told(0, 1, i), i);
        }
        inside("from 2", orderOf(2), code("021"));
        for (int wrong : new int[] {-1, 3, 4, 5, 6, LOWEST, HIGHEST, HIGHEST - 1, HIGHEST - 2}) {
            outside("from " + wrong, desk.told(0, 1, wrong), OUTSIDE);
        }
        inside("packs", desk.count(1), 3);
    }

    private void toldShort() {
        fresh(1);
        desk.tray(0, 2, 0);
        outside("an empty tray", desk.told(0, 2, 0), OUTSIDE);
        desk.tray(0, 2, 1);
        inside("one item for one card", desk.told(0, 2, 0), 0);
        desk.begin(10);
        trayOf(0, 2, 9, 8, 7, 6, 5, 4, 3, 2, 1);
        outside("nine items for ten cards", desk.told(0, 2, 0), OUTSIDE);
        trayOf(0, 2, 9, 8, 7, 6, 5, 4, 3, 2, 1, 0);
        inside("ten items for ten cards", desk.told(0, 2, 0), 0);
        inside("ten items for ten cards", orderOf(0), code("9876543210"));
        desk.tray(0, 2, 40);
        for (int i = 0; i < 10; i++) {
            desk.cell(0, 30 + i, i);
        }
        inside("the last ten of forty", desk.told(0, 2, 30), 1);
        outside("one further", desk.told(0, 2, 31), OUTSIDE);
    }

    private void toldNoCard() {
        fresh(3);
        for (int sort = 0; sort < 3; sort++) {
            trayOf(sort, sort, 1, 0, 2);
            inside("the highest card", desk.told(sort, sort, 0), sort);
            desk.cell(sort, 2, 3);
            outside("one above it", desk.told(sort, sort, 0), STATE);
            desk.cell(sort, 2, -1);
            outside("one below 0", desk.told(sort, sort, 0), STATE);
            desk.cell(sort, 2, 127);
            outside("far above", desk.told(sort, sort, 0), STATE);
            desk.cell(sort, 2, -128);
            outside("far below", desk.told(sort, sort, 0), STATE);
        }
        // bits that a shift or a mask by a CARD would take for those of a CARD
        for (int wrong : new int[] {32 + 2, 64 + 2, LOWEST, HIGHEST, LOWEST + 2}) {
            desk.cell(2, 2, wrong);
            outside("an int " + wrong, desk.told(2, 2, 0), STATE);
        }
        inside("packs", desk.count(1), 3);
    }

    private void toldTwice() {
        fresh(3);
        trayOf(0, 2, 2, 0, 1);
        inside("each once", desk.told(0, 2, 0), 0);
        for (String twice : new String[] {"200", "002", "020", "211", "121", "222", "000"}) {
            for (int i = 0; i < 3; i++) {
                desk.cell(0, i, twice.charAt(i) - '0');
            }
            outside(twice, desk.told(0, 2, 0), STATE);
        }
    }

    private void toldFull() {
        fresh(1);
        desk.tray(0, 0, 1);
        for (int i = 0; i < 12; i++) {
            inside("pack " + i, desk.told(0, 0, 0), i);
        }
        outside("a thirteenth", desk.told(0, 0, 0), FULL);
        inside("packs", desk.count(1), 12);
    }

    private void toldInOrder() {
        fresh(2);
        trayOf(0, 0, 1, 0, 0);
        fillPacks();
        inside("only full", desk.told(0, 0, 0), FULL);
        outside("STATE ahead of FULL", desk.told(0, 0, 1), STATE);
        outside("-12 ahead of STATE and FULL", desk.told(0, 0, 2), OUTSIDE);
        outside("-11 ahead of -12 and FULL", desk.told(1, 0, 9), NOTHING);
        outside("-11 ahead of -12 and FULL", desk.told(1, 2, -1), NOTHING);
        outside("-13 ahead of FULL", desk.told(0, 1, 0), OTHER);
        outside("-13 ahead of STATE", desk.told(0, 1, 1), OTHER);
        outside("-13 ahead of -12", desk.told(0, 1, 2), OTHER);
        outside("BAD ahead of -13", desk.told(0, 3, 0), BAD);
        outside("BAD ahead of -11", desk.told(1, 3, 0), BAD);
        outside("BAD ahead of -12", desk.told(0, -1, -1), BAD);
        outside("BAD ahead of all", desk.told(4, 0, -1), BAD);
    }

    // ---- 6

    private void cardPack() {
        fillPacks();
        inside("pack 0", desk.card(0, 1), 1);
        inside("pack 11", desk.card(11, 1), 1);
        outside("pack 12", desk.card(12, 1), BAD);
        outside("pack -1", desk.card(-1, 1), BAD);
        desk.begin(4);
        desk.pack();
        inside("the one pack", desk.card(0, 1), 1);
        outside("one further", desk.card(1, 1), BAD);
        outside("lowest", desk.card(LOWEST, 1), BAD);
        outside("highest", desk.card(HIGHEST, 1), BAD);
    }

    private void cardPlace() {
        for (int n = 1; n <= 10; n++) {
            fresh(n);
            desk.ranked(factorial(n) - 1);
            inside("place 0", desk.card(0, 0), n - 1);
            inside("the last place", desk.card(0, n - 1), 0);
            outside("behind the last place", desk.card(0, n), BAD);
            outside("place -1", desk.card(0, -1), BAD);
        }
        outside("lowest", desk.card(0, LOWEST), BAD);
        outside("highest", desk.card(0, HIGHEST), BAD);
    }

    // ---- 7

    private void packToldPack() {
        fillPacks();
        for (int what = 0; what < 3; what++) {
            inside("pack 0", desk.packTold(0, what), what == 1 ? 1 : 0);
            inside("pack 11", desk.packTold(11, what), what == 1 ? 1 : 0);
            for (int wrong : new int[] {-1, 12, LOWEST, HIGHEST}) {
                outside("pack " + wrong, desk.packTold(wrong, what), BAD);
            }
        }
        desk.begin(4);
        outside("no pack", desk.packTold(0, 0), BAD);
    }

    private void packToldWhat() {
        desk.ranked(22);
        inside("what 0", desk.packTold(0, 0), 22);
        inside("what 1", desk.packTold(0, 1), 3);
        inside("what 2", desk.packTold(0, 2), 2);
        for (int wrong : new int[] {-1, 3, LOWEST, HIGHEST}) {
            outside("what " + wrong, desk.packTold(0, wrong), BAD);
        }
    }

    private void packToldRank() {
        for (int n = 1; n <= 10; n++) {
            fresh(n);
            inside("the first order", desk.packTold(packOf(firstOrder(n)), 0), 0);
            inside("the last order", desk.packTold(packOf(lastOrder(n)), 0), factorial(n) - 1);
            outside("none behind it", desk.ranked(factorial(n)), BAD);
        }
        fresh(10);
        inside("the last with card 0 on top", desk.packTold(packOf("0987654321"), 0), factorial(9) - 1);
        inside("the first with card 1 on top", desk.packTold(packOf("1023456789"), 0), factorial(9));
    }

    private void packToldRuns() {
        for (int n = 1; n <= 10; n++) {
            fresh(n);
            inside("the fewest", desk.packTold(packOf(firstOrder(n)), 1), 1);
            inside("the most", desk.packTold(packOf(lastOrder(n)), 1), n);
            outside("no more than cards", desk.runs(n + 1), NO);
        }
        fresh(6);
        inside("others lie between", desk.packTold(packOf("304152"), 1), 2);
        inside("one ends with the last card", desk.packTold(packOf("501234"), 1), 2);
        inside("one is card 0 alone", desk.packTold(packOf("123450"), 1), 2);
    }

    private void packToldPlace() {
        for (int n = 1; n <= 10; n++) {
            fresh(n);
            inside("on top", desk.packTold(packOf(firstOrder(n)), 2), 0);
            inside("at the end", desk.packTold(packOf(lastOrder(n)), 2), n - 1);
            outside("no further", desk.card(1, n), BAD);
        }
    }
}
