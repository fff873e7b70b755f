/** Each promise of the document by hand: ordinary inputs, the edges it names, and wrong inputs. */
public final class PromiseTest {
    private static final int NONE = -1, BAD = -2, STATE = -3, FULL = -4;
    private static final int NOTHING = -11, OUTSIDE = -12, OTHER = -13, BELOW = -14;
    private static final long NO = -4611686018427387904L;
    private static final int LOWEST = Integer.MIN_VALUE, HIGHEST = Integer.MAX_VALUE;
    private static final Check CHECK = new Check("PromiseTest");

    private static int promise;
    private static ShuffleDesk desk;

    public static void main(String[] args) {
        aNewObject();
        begin();
        pack();
        ranked();
        told();
        toldInOrder();
        card();
        packTold();
        move();
        perfect();
        deal();
        riffle();
        top();
        behind();
        back();
        moves();
        shuffleTold();
        power();
        does();
        lots();
        draw();
        seed();
        chance();
        chanceOfTop();
        place();
        far();
        unlike();
        runs();
        leads();
        lead();
        group();
        act();
        actOfEachKind();
        trace();
        count();
        tray();
        cell();
        copy();
        taken();
        CHECK.end();
    }

    private static void due(String call, long got, long want) {
        CHECK.due("promise " + promise + ": " + call, got, want);
    }

    private static void start(int number, int cards) {
        promise = number;
        desk = new ShuffleDesk();
        if (cards != 4) {
            due("begin", desk.begin(cards), 1);
        }
    }

    private static void order(String what, int pack, int... cards) {
        for (int i = 0; i < cards.length; i++) {
            due(what + ": card " + i, desk.card(pack, i), cards[i]);
        }
        due(what + ": behind the last", desk.card(pack, cards.length), BAD);
    }

    private static void moveIs(String what, int shuffle, int... from) {
        for (int i = 0; i < from.length; i++) {
            due(what + ": m(" + i + ")", desk.moves(shuffle, i), from[i]);
        }
    }

    private static void fraction(String what, long above, long below, long wantAbove, long wantBelow) {
        due(what + " above the line", above, wantAbove);
        due(what + " below the line", below, wantBelow);
    }

    /** A PACK in a told order, through a TRAY that no test uses otherwise. */
    private static int packOf(int... cards) {
        desk.tray(3, 2, cards.length);
        for (int i = 0; i < cards.length; i++) {
            desk.cell(3, i, cards[i]);
        }
        return desk.told(3, 2, 0);
    }

    private static void fillShuffles() {
        for (int i = 0; i < 10 && desk.count(2) < 10; i++) {
            desk.riffle(2);
        }
    }

    private static void fillPacks() {
        for (int i = 0; i < 12 && desk.count(1) < 12; i++) {
            desk.pack();
        }
    }

    private static void aNewObject() {
        start(1, 4);
        due("cards", desk.count(0), 4);
        due("packs", desk.count(1), 0);
        due("shuffles", desk.count(2), 0);
        due("bodies", desk.count(3), 0);
        due("trace", desk.trace(0), NONE);
        due("no pack", desk.card(0, 0), BAD);
        due("no shuffle", desk.shuffleTold(0, 0), BAD);
        for (int tray = 0; tray < 4; tray++) {
            due("missing tray", desk.cell(tray, 0, 0), NOTHING);
        }
        due("seed", desk.seed(3), 0);
        due("first pack", desk.pack(), 0);
        order("first pack", 0, 0, 1, 2, 3);
        ShuffleDesk other = new ShuffleDesk();
        due("objects share nothing: packs", other.count(1), 0);
        due("objects share nothing: seed", other.seed(0), 0);
    }

    private static void begin() {
        start(2, 4);
        desk.pack();
        desk.top();
        desk.seed(77);
        desk.tray(1, 0, 2);
        desk.act(0, 2, 1);
        for (int wrong : new int[] {0, -1, 11, LOWEST, HIGHEST}) {
            due("begin " + wrong, desk.begin(wrong), BAD);
        }
        due("a refusal keeps the cards", desk.count(0), 4);
        due("a refusal keeps the packs", desk.count(1), 1);
        due("a refusal keeps the shuffles", desk.count(2), 1);
        for (int n = 1; n <= 10; n++) {
            due("begin " + n, desk.begin(n), 1);
            due("cards", desk.count(0), n);
            due("packs", desk.count(1), 0);
            due("shuffles", desk.count(2), 0);
            due("old pack", desk.card(0, 0), BAD);
            due("old shuffle", desk.taken(0, 0), NOTHING);
            due("pack", desk.pack(), 0);
            due("last card", desk.card(0, n - 1), n - 1);
            due("riffle", desk.riffle(2), 0);
        }
        due("the same number again", desk.begin(10), 1);
        due("packs", desk.count(1), 0);
        due("the trace is the latest act's still", desk.count(3), 20);
        due("the seed stays", desk.seed(0), 77);
        due("the tray stays", desk.cell(1, 1, 5), 1);
    }

    private static void pack() {
        start(3, 5);
        for (int i = 0; i < 12; i++) {
            due("pack", desk.pack(), i);
        }
        due("a thirteenth pack", desk.pack(), FULL);
        due("packs", desk.count(1), 12);
        order("last pack", 11, 0, 1, 2, 3, 4);
        due("begin", desk.begin(1), 1);
        due("room again", desk.pack(), 0);
        order("one card", 0, 0);
    }

    private static void ranked() {
        start(4, 4);
        due("rank 0", desk.ranked(0), 0);
        order("rank 0", 0, 0, 1, 2, 3);
        due("rank 1", desk.ranked(1), 1);
        order("rank 1", 1, 0, 1, 3, 2);
        due("rank 13", desk.ranked(13), 2);
        order("rank 13", 2, 2, 0, 3, 1);
        due("rank 23", desk.ranked(23), 3);
        order("rank 23", 3, 3, 2, 1, 0);
        for (int wrong : new int[] {24, -1, LOWEST, HIGHEST}) {
            due("ranked " + wrong, desk.ranked(wrong), BAD);
        }
        due("packs", desk.count(1), 4);
        fillPacks();
        due("full", desk.ranked(0), FULL);
        due("bad comes before full", desk.ranked(24), BAD);
        desk.begin(10);
        due("greatest rank", desk.ranked(3628799), 0);
        order("greatest rank", 0, 9, 8, 7, 6, 5, 4, 3, 2, 1, 0);
        due("above the greatest rank", desk.ranked(3628800), BAD);
        due("rank 1234567", desk.ranked(1234567), 1);
        due("its rank", desk.packTold(1, 0), 1234567);
        desk.begin(1);
        due("rank 0 of one", desk.ranked(0), 0);
        due("rank 1 of one", desk.ranked(1), BAD);
    }

    private static void told() {
        start(5, 3);
        for (int sort = 0; sort < 3; sort++) {
            desk.tray(sort, sort, 5);
            desk.cell(sort, 0, 9);
            desk.cell(sort, 1, 2);
            desk.cell(sort, 2, 0);
            desk.cell(sort, 3, 1);
            desk.cell(sort, 4, 1);
            due("told", desk.told(sort, sort, 1), sort);
            order("told", sort, 2, 0, 1);
            due("no card", desk.told(sort, sort, 0), STATE);
            due("twice", desk.told(sort, sort, 2), STATE);
            due("beyond the end", desk.told(sort, sort, 3), OUTSIDE);
            due("below 0", desk.told(sort, sort, -1), OUTSIDE);
            due("far beyond", desk.told(sort, sort, HIGHEST), OUTSIDE);
            due("far below", desk.told(sort, sort, LOWEST), OUTSIDE);
            due("another sort", desk.told(sort, (sort + 1) % 3, 1), OTHER);
            desk.cell(sort, 4, -1);
            due("a card below 0", desk.told(sort, sort, 2), STATE);
            desk.cell(sort, 4, 3);
            due("a card too high", desk.told(sort, sort, 2), STATE);
            desk.cell(sort, 4, 2);
            due("the last items", desk.told(sort, sort, 2), desk.count(1) - 1);
            due("begin", desk.begin(3), 1);
            for (int i = 0; i <= sort; i++) {
                desk.pack();
            }
        }
        due("missing", desk.told(3, 2, 0), NOTHING);
        due("no tray", desk.told(4, 0, 0), BAD);
        due("no tray", desk.told(-1, 0, 0), BAD);
        due("no sort", desk.told(0, 3, 0), BAD);
        due("no sort", desk.told(0, -1, 0), BAD);
    }

    private static void toldInOrder() {
        start(5, 3);
        desk.tray(0, 0, 3);
        desk.cell(0, 1, 1);
        desk.cell(0, 2, 2);
        due("changed by nothing later", desk.told(0, 0, 0), 0);
        desk.cell(0, 0, 2);
        desk.cell(0, 2, 0);
        order("changed by nothing later", 0, 0, 1, 2);
        due("no sort, and missing", desk.told(1, 3, 0), BAD);
        due("another sort, and outside", desk.told(0, 1, 9), OTHER);
        due("missing, and outside", desk.told(1, 0, -9), NOTHING);
        fillPacks();
        due("full", desk.told(0, 0, 0), FULL);
        desk.cell(0, 0, 0);
        due("state comes before full", desk.told(0, 0, 0), STATE);
        due("outside comes before state", desk.told(0, 0, 1), OUTSIDE);
        due("packs", desk.count(1), 12);
        desk.tray(2, 2, 0);
        due("an empty tray", desk.told(2, 2, 0), OUTSIDE);
        desk.begin(3);
        desk.tray(2, 2, 3);
        desk.cell(2, 0, 256);
        desk.cell(2, 1, 1);
        desk.cell(2, 2, 2);
        due("ints are not cut", desk.told(2, 2, 0), STATE);
    }

    private static void card() {
        start(6, 4);
        due("ranked", desk.ranked(9), 0);
        order("ranked", 0, 1, 2, 3, 0);
        for (int wrong : new int[] {-1, 4, LOWEST, HIGHEST}) {
            due("card at " + wrong, desk.card(0, wrong), BAD);
        }
        for (int wrong : new int[] {-1, 1, 12, LOWEST, HIGHEST}) {
            due("card of " + wrong, desk.card(wrong, 0), BAD);
        }
    }

    private static void packTold() {
        start(7, 6);
        int pack = packOf(3, 0, 4, 5, 1, 2);
        due("rank", desk.packTold(pack, 0), 3 * 120 + 0 + 2 * 6 + 2 * 2);
        due("runs", desk.packTold(pack, 1), 2);
        due("place of card 0", desk.packTold(pack, 2), 1);
        pack = packOf(5, 4, 3, 2, 1, 0);
        due("greatest rank", desk.packTold(pack, 0), 719);
        due("most runs", desk.packTold(pack, 1), 6);
        due("card 0 at the end", desk.packTold(pack, 2), 5);
        pack = desk.pack();
        due("rank 0", desk.packTold(pack, 0), 0);
        due("one run", desk.packTold(pack, 1), 1);
        due("card 0 on top", desk.packTold(pack, 2), 0);
        pack = packOf(2, 5, 1, 4, 0, 3);
        due("runs of neighbours, not of places", desk.packTold(pack, 1), 5);
        for (int wrong : new int[] {-1, 3, LOWEST, HIGHEST}) {
            due("what " + wrong, desk.packTold(0, wrong), BAD);
        }
        due("no pack", desk.packTold(4, 0), BAD);
        due("no pack", desk.packTold(-1, 0), BAD);
    }

    private static void move() {
        start(8, 4);
        desk.ranked(13);
        due("move", desk.move(0), 0);
        moveIs("move", 0, 2, 0, 3, 1);
        due("kind", desk.shuffleTold(0, 0), 0);
        due("heaps", desk.shuffleTold(0, 1), 2);
        due("does", desk.does(0, 0), 1);
        order("done with itself", 0, 3, 2, 1, 0);
        moveIs("as the pack was then", 0, 2, 0, 3, 1);
        due("as it is now", desk.move(0), 1);
        moveIs("as it is now", 1, 3, 2, 1, 0);
        due("no pack", desk.move(1), BAD);
        due("no pack", desk.move(-1), BAD);
        fillShuffles();
        due("full", desk.move(0), FULL);
        due("bad comes before full", desk.move(1), BAD);
        due("shuffles", desk.count(2), 10);
    }

    private static void perfect() {
        start(9, 6);
        due("outer", desk.perfect(0), 0);
        moveIs("outer", 0, 0, 3, 1, 4, 2, 5);
        due("inner", desk.perfect(1), 1);
        moveIs("inner", 1, 3, 0, 4, 1, 5, 2);
        due("kind", desk.shuffleTold(1, 0), 1);
        due("heaps", desk.shuffleTold(1, 1), 2);
        for (int wrong : new int[] {-1, 2, LOWEST, HIGHEST}) {
            due("way " + wrong, desk.perfect(wrong), BAD);
        }
        fillShuffles();
        due("full", desk.perfect(0), FULL);
        due("bad comes before full", desk.perfect(2), BAD);
        desk.begin(5);
        fillShuffles();
        due("odd, and full", desk.perfect(1), STATE);
        due("bad comes before odd", desk.perfect(-1), BAD);
        desk.begin(2);
        due("outer of two", desk.perfect(0), 0);
        due("inner of two", desk.perfect(1), 1);
        moveIs("outer of two", 0, 0, 1);
        moveIs("inner of two", 1, 1, 0);
    }

    private static void deal() {
        start(10, 7);
        due("deal 3", desk.deal(3), 0);
        moveIs("deal 3", 0, 6, 3, 0, 4, 1, 5, 2);
        due("deal 1", desk.deal(1), 1);
        moveIs("deal 1", 1, 6, 5, 4, 3, 2, 1, 0);
        due("deal 7", desk.deal(7), 2);
        moveIs("deal 7", 2, 0, 1, 2, 3, 4, 5, 6);
        due("deal 4", desk.deal(4), 3);
        moveIs("deal 4", 3, 4, 0, 5, 1, 6, 2, 3);
        due("kind", desk.shuffleTold(3, 0), 2);
        due("heaps", desk.shuffleTold(3, 1), 4);
        for (int wrong : new int[] {0, -1, 8, 10, LOWEST, HIGHEST}) {
            due("heaps " + wrong, desk.deal(wrong), BAD);
        }
        fillShuffles();
        due("full", desk.deal(1), FULL);
        due("bad comes before full", desk.deal(8), BAD);
        due("the last one is as it was", desk.shuffleTold(9, 0), 3);
    }

    private static void riffle() {
        start(11, 3);
        due("riffle 1", desk.riffle(1), 0);
        due("riffle 10, more than the cards", desk.riffle(10), 1);
        due("kind", desk.shuffleTold(1, 0), 3);
        due("heaps", desk.shuffleTold(1, 1), 10);
        for (int wrong : new int[] {0, -1, 11, LOWEST, HIGHEST}) {
            due("heaps " + wrong, desk.riffle(wrong), BAD);
        }
        fillShuffles();
        due("full", desk.riffle(1), FULL);
        due("bad comes before full", desk.riffle(0), BAD);
        due("shuffles", desk.count(2), 10);
    }

    private static void top() {
        start(12, 7);
        for (int i = 0; i < 10; i++) {
            due("top", desk.top(), i);
        }
        due("full", desk.top(), FULL);
        due("kind", desk.shuffleTold(9, 0), 4);
        due("heaps", desk.shuffleTold(9, 1), 7);
        due("shuffles", desk.count(2), 10);
    }

    private static void behind() {
        start(13, 4);
        desk.ranked(9);
        desk.ranked(6);
        desk.move(0);
        desk.move(1);
        moveIs("first", 0, 1, 2, 3, 0);
        moveIs("second", 1, 1, 0, 2, 3);
        due("behind", desk.behind(0, 1), 2);
        moveIs("behind", 2, 2, 1, 3, 0);
        due("the other way", desk.behind(1, 0), 3);
        moveIs("the other way", 3, 0, 2, 3, 1);
        int pack = desk.pack();
        desk.does(0, pack);
        desk.does(1, pack);
        order("one behind another", pack, 2, 1, 3, 0);
        desk.perfect(0);
        due("twice the same", desk.behind(4, 4), 5);
        due("kind of two perfect ones", desk.shuffleTold(5, 0), 0);
        moveIs("twice the same", 5, 0, 1, 2, 3);
        desk.deal(3);
        due("a deal", desk.behind(6, 4), 7);
        due("kind", desk.shuffleTold(7, 0), 0);
        due("heaps", desk.shuffleTold(7, 1), 2);
        desk.riffle(2);
        due("no move", desk.behind(8, 0), STATE);
        due("no move", desk.behind(0, 8), STATE);
        due("no such", desk.behind(0, 9), BAD);
        due("no such", desk.behind(9, 0), BAD);
        due("no such", desk.behind(-1, 8), BAD);
        due("bad comes before state", desk.behind(8, 9), BAD);
        desk.top();
        due("full", desk.behind(0, 1), FULL);
        due("state comes before full", desk.behind(0, 9), STATE);
        due("bad comes before full", desk.behind(0, 10), BAD);
    }

    private static void back() {
        start(14, 4);
        desk.ranked(9);
        desk.move(0);
        due("back", desk.back(0), 1);
        moveIs("back", 1, 3, 0, 1, 2);
        desk.does(1, 0);
        order("undone", 0, 0, 1, 2, 3);
        desk.deal(2);
        due("back of a deal", desk.back(2), 3);
        moveIs("deal", 2, 2, 0, 3, 1);
        moveIs("back of a deal", 3, 1, 3, 0, 2);
        due("kind", desk.shuffleTold(3, 0), 0);
        due("heaps", desk.shuffleTold(3, 1), 2);
        desk.top();
        due("no move", desk.back(4), STATE);
        due("no such", desk.back(5), BAD);
        due("no such", desk.back(-1), BAD);
        fillShuffles();
        due("full", desk.back(0), FULL);
        due("state comes before full", desk.back(4), STATE);
        due("bad comes before full", desk.back(10), BAD);
    }

    private static void moves() {
        start(15, 4);
        desk.perfect(1);
        desk.riffle(3);
        desk.top();
        moveIs("inner", 0, 2, 0, 3, 1);
        due("riffle", desk.moves(1, 3), NONE);
        due("top", desk.moves(2, 0), NONE);
        for (int wrong : new int[] {-1, 4, LOWEST, HIGHEST}) {
            due("place " + wrong, desk.moves(0, wrong), BAD);
        }
        for (int wrong : new int[] {-1, 3, 10, LOWEST, HIGHEST}) {
            due("shuffle " + wrong, desk.moves(wrong, 0), BAD);
        }
        due("a refusal comes before none", desk.moves(1, 4), BAD);
    }

    private static void shuffleTold() {
        start(16, 10);
        int pack = packOf(1, 0, 3, 4, 2, 6, 7, 8, 9, 5);
        desk.move(pack);
        due("rounds of 2, 3, 5", desk.shuffleTold(0, 2), 3);
        due("least power of 2, 3, 5", desk.shuffleTold(0, 3), 30);
        desk.move(desk.pack());
        due("rounds of one place", desk.shuffleTold(1, 2), 10);
        due("least power of nothing", desk.shuffleTold(1, 3), 1);
        desk.move(packOf(1, 2, 3, 0, 5, 4, 7, 8, 9, 6));
        due("rounds of 4, 2, 4", desk.shuffleTold(2, 2), 3);
        due("least power of 4, 2, 4", desk.shuffleTold(2, 3), 4);
        desk.perfect(0);
        due("kind", desk.shuffleTold(3, 0), 1);
        due("least power of the outer", desk.shuffleTold(3, 3), 6);
        desk.perfect(1);
        due("least power of the inner", desk.shuffleTold(4, 3), 10);
        due("rounds of the inner", desk.shuffleTold(4, 2), 1);
        desk.deal(7);
        desk.riffle(3);
        desk.top();
        int[] heaps = {2, 2, 2, 2, 2, 7, 3, 10};
        int[] kinds = {0, 0, 0, 1, 1, 2, 3, 4};
        for (int s = 0; s < 8; s++) {
            due("kind of " + s, desk.shuffleTold(s, 0), kinds[s]);
            due("heaps of " + s, desk.shuffleTold(s, 1), heaps[s]);
            due("what -1", desk.shuffleTold(s, -1), BAD);
            due("what 4", desk.shuffleTold(s, 4), BAD);
        }
        for (int s = 6; s < 8; s++) {
            due("no rounds", desk.shuffleTold(s, 2), NONE);
            due("no power", desk.shuffleTold(s, 3), NONE);
        }
        due("no such", desk.shuffleTold(8, 0), BAD);
        due("no such", desk.shuffleTold(-1, 0), BAD);
    }

    private static void power() {
        start(17, 5);
        desk.move(packOf(1, 2, 0, 4, 3));
        int[][] places = {{0, 1, 2, 3, 4}, {1, 2, 0, 4, 3}, {2, 0, 1, 3, 4}, {0, 1, 2, 4, 3}};
        for (int e = 0; e < 4; e++) {
            for (int i = 0; i < 5; i++) {
                due("power " + e + " at " + i, desk.power(0, e, i), places[e][i]);
                due("and 6 more", desk.power(0, e + 6, i), places[e][i]);
                due("and very many more", desk.power(0, e + 6000000000000000000L, i), places[e][i]);
            }
        }
        // the greatest long is 1 more than a multiple of 6
        due("greatest e", desk.power(0, Long.MAX_VALUE, 0), 1);
        due("greatest e", desk.power(0, Long.MAX_VALUE, 3), 4);
        due("e below 0", desk.power(0, -1, 0), BAD);
        due("e far below 0", desk.power(0, Long.MIN_VALUE, 0), BAD);
        due("no place", desk.power(0, 1, 5), BAD);
        due("no place", desk.power(0, 1, -1), BAD);
        due("no such", desk.power(1, 1, 0), BAD);
        due("no such", desk.power(-1, 1, 0), BAD);
        desk.top();
        desk.riffle(1);
        due("top", desk.power(1, 1, 0), NONE);
        due("riffle", desk.power(2, 0, 4), NONE);
        due("a refusal comes before none", desk.power(1, -1, 0), BAD);
    }

    private static void does() {
        start(18, 4);
        desk.ranked(13);
        desk.pack();
        desk.deal(1);
        desk.perfect(1);
        due("deal", desk.does(0, 0), 1);
        order("deal", 0, 1, 3, 0, 2);
        due("inner", desk.does(1, 0), 1);
        order("inner", 0, 0, 1, 2, 3);
        due("inner again", desk.does(1, 0), 1);
        order("inner again", 0, 2, 0, 3, 1);
        order("another pack", 1, 0, 1, 2, 3);
        desk.riffle(2);
        desk.top();
        due("riffle", desk.does(2, 0), STATE);
        due("top", desk.does(3, 0), STATE);
        due("no pack", desk.does(0, 2), BAD);
        due("no pack", desk.does(0, -1), BAD);
        due("no shuffle", desk.does(4, 0), BAD);
        due("no shuffle", desk.does(-1, 0), BAD);
        due("bad comes before state", desk.does(2, 2), BAD);
        order("nothing is changed", 0, 2, 0, 3, 1);
    }

    private static void lots() {
        start(19, 4);
        desk.pack();
        desk.riffle(3);
        desk.top();
        desk.deal(2);
        // lots 1, 0, 2, 0: heap 0 is 0, 1; heap 1 is 2; heap 2 is 3
        due("riffle", desk.lots(0, 0, 1 + 0 + 2 * 9), 1);
        order("riffle", 0, 2, 0, 3, 1);
        // lots 2, 2, 0, 1: heap 0 is 2; heap 1 is 0; heap 2 is 3, 1
        due("riffle", desk.lots(0, 0, 2 + 2 * 3 + 0 + 27), 1);
        order("riffle", 0, 3, 1, 2, 0);
        due("all lots 0", desk.lots(0, 0, 0), 1);
        due("all lots 2", desk.lots(0, 0, 80), 1);
        order("one heap changes nothing", 0, 3, 1, 2, 0);
        due("too high", desk.lots(0, 0, 81), BAD);
        due("below 0", desk.lots(0, 0, -1), BAD);
        due("highest", desk.lots(0, 0, Long.MAX_VALUE), BAD);
        due("lowest", desk.lots(0, 0, Long.MIN_VALUE), BAD);
        due("not cut to an int", desk.lots(0, 0, 1L << 32), BAD);
        due("top to 2", desk.lots(1, 0, 2), 1);
        order("top to 2", 0, 1, 2, 3, 0);
        due("top stays", desk.lots(1, 0, 0), 1);
        order("top stays", 0, 1, 2, 3, 0);
        due("top to the end", desk.lots(1, 0, 3), 1);
        order("top to the end", 0, 2, 3, 0, 1);
        due("top too far", desk.lots(1, 0, 4), BAD);
        due("top below 0", desk.lots(1, 0, -1), BAD);
        due("not cut to an int", desk.lots(1, 0, 1L << 32), BAD);
        due("it has a move", desk.lots(2, 0, 0), STATE);
        due("state comes before lots", desk.lots(2, 0, -1), STATE);
        due("no pack comes before state", desk.lots(2, 1, 0), BAD);
        due("no shuffle", desk.lots(3, 0, 0), BAD);
        due("no shuffle", desk.lots(-1, 0, 0), BAD);
        due("no pack", desk.lots(0, -1, 0), BAD);
        order("nothing is changed", 0, 2, 3, 0, 1);
        desk.begin(10);
        desk.pack();
        desk.riffle(10);
        due("last of ten to the ten", desk.lots(0, 0, 9999999999L), 1);
        due("ten to the ten", desk.lots(0, 0, 10000000000L), BAD);
        due("all turned", desk.lots(0, 0, 123456789L), 1);
        order("all turned", 0, 9, 8, 7, 6, 5, 4, 3, 2, 1, 0);
        desk.riffle(1);
        due("one heap", desk.lots(1, 0, 0), 1);
        due("one heap has one row", desk.lots(1, 0, 1), BAD);
        due("top card", desk.card(0, 0), 9);
    }

    private static void draw() {
        start(20, 4);
        desk.pack();
        desk.riffle(2);
        desk.top();
        desk.deal(2);
        long lots = desk.draw(0, 0);
        int seed = 0;
        long want = 0;
        for (int i = 0; i < 4; i++) {
            seed = nextSeed(seed, 2);
            want += (long) lotOf(seed) << i;
        }
        due("riffle from seed 0", lots, want);
        due("seed behind it", desk.seed(seed), seed);
        desk.pack();
        desk.lots(0, 1, lots);
        due("done by these lots", desk.packTold(0, 0), desk.packTold(1, 0));
        seed = nextSeed(seed, 4);
        due("top draws one lot below 4", desk.draw(1, 0), lotOf(seed));
        due("seed behind it", desk.seed(seed), seed);
        desk.lots(1, 1, lotOf(seed));
        due("done by this lot", desk.packTold(0, 0), desk.packTold(1, 0));
        int rank = desk.packTold(0, 0);
        due("it has a move", desk.draw(2, 0), NO);
        due("no shuffle", desk.draw(3, 0), NO);
        due("no shuffle", desk.draw(-1, 0), NO);
        due("no pack", desk.draw(0, 2), NO);
        due("no pack", desk.draw(1, -1), NO);
        due("nothing is drawn then", desk.seed(7), seed);
        due("nothing is done then", desk.packTold(0, 0), rank);
        due("from seed 7", desk.draw(0, 0), 11);
        desk.begin(10);
        desk.pack();
        desk.riffle(10);
        seed = -5;
        desk.seed(seed);
        want = 0;
        long worth = 1;
        for (int i = 0; i < 10; i++) {
            seed = nextSeed(seed, 10);
            want += worth * lotOf(seed);
            worth *= 10;
        }
        due("ten heaps of ten", desk.draw(0, 0), want);
        due("seed behind it", desk.seed(0), seed);
        desk.riffle(1);
        due("one heap", desk.draw(1, 0), 0);
        seed = 0;
        for (int i = 0; i < 10; i++) {
            seed = nextSeed(seed, 1);
        }
        due("one heap draws too", desk.seed(0), seed);
    }

    private static int nextSeed(int seed, int lots) {
        int next = seed * 1103515245 + 12345;
        while (lotOf(next) >= lots) {
            next = next * 1103515245 + 12345;
        }
        return next;
    }

    private static int lotOf(int seed) {
        return (seed >>> 16) % 16;
    }

    private static void seed() {
        start(21, 4);
        due("at first", desk.seed(5), 0);
        due("what it was", desk.seed(LOWEST), 5);
        due("any number", desk.seed(HIGHEST), LOWEST);
        due("any number", desk.seed(-1), HIGHEST);
        desk.pack();
        desk.top();
        desk.draw(0, 0);
        due("draws move it on", desk.seed(-1) == -1 ? 1 : 0, 0);
        long first = desk.draw(0, 0);
        desk.seed(-1);
        due("the same seed draws the same", desk.draw(0, 0), first);
    }

    private static void chanceIs(String what, int shuffle, int k, int pack, long above, long below) {
        fraction(what, desk.chance(shuffle, k, pack, 0), desk.chance(shuffle, k, pack, 1), above, below);
    }

    private static void chance() {
        start(22, 4);
        desk.pack();
        desk.ranked(13);
        desk.ranked(23);
        desk.riffle(2);
        desk.riffle(1);
        desk.riffle(10);
        desk.riffle(3);
        desk.deal(2);
        chanceIs("first order", 0, 1, 0, 5, 16);
        chanceIs("two runs", 0, 1, 1, 1, 16);
        chanceIs("four runs cannot come", 0, 1, 2, 0, 1);
        chanceIs("two runs, twice", 0, 2, 1, 15, 256);
        chanceIs("four runs, twice", 0, 2, 2, 1, 256);
        chanceIs("thrice", 0, 3, 0, 165, 2048);
        chanceIs("never", 0, 0, 0, 1, 1);
        chanceIs("never", 0, 0, 1, 0, 1);
        chanceIs("one heap six times", 1, 6, 0, 1, 1);
        chanceIs("one heap six times", 1, 6, 2, 0, 1);
        chanceIs("ten heaps", 2, 1, 2, 21, 1000);
        chanceIs("ten heaps, never", 2, 0, 2, 0, 1);
        chanceIs("three heaps twice", 3, 2, 0, 55, 729);
        due("sixteen rows", desk.chance(0, 4, 0, 0), NO);
        due("a hundred rows", desk.chance(2, 2, 0, 0), NO);
        due("27 rows", desk.chance(3, 3, 0, 1), NO);
        due("one heap seven times", desk.chance(1, 7, 0, 0), NO);
        due("k below 0", desk.chance(1, -1, 0, 0), NO);
        due("k highest", desk.chance(1, HIGHEST, 0, 0), NO);
        due("what", desk.chance(0, 1, 0, 2), NO);
        due("what", desk.chance(0, 1, 0, -1), NO);
        due("it has a move", desk.chance(4, 1, 0, 0), NO);
        due("no shuffle", desk.chance(5, 1, 0, 0), NO);
        due("no shuffle", desk.chance(-1, 1, 0, 0), NO);
        due("no pack", desk.chance(0, 1, 3, 0), NO);
        due("no pack", desk.chance(0, 1, -1, 0), NO);
        desk.begin(10);
        desk.pack();
        desk.riffle(10);
        chanceIs("ten heaps of ten", 0, 1, 0, 46189, 5000000000L);
    }

    private static void chanceOfTop() {
        start(22, 6);
        desk.pack();
        desk.ranked(719);
        desk.top();
        chanceIs("once", 0, 1, 0, 1, 6);
        chanceIs("never", 0, 0, 0, 1, 1);
        chanceIs("never", 0, 0, 1, 0, 1);
        chanceIs("five times, the last order", 0, 5, 1, 1, 7776);
        chanceIs("six times, the last order", 0, 6, 1, 1, 2916);
        chanceIs("six times, the first order", 0, 6, 0, 203, 46656);
        chanceIs("four times cannot turn six", 0, 4, 1, 0, 1);
        due("seven times", desk.chance(0, 7, 0, 0), NO);
        due("below 0", desk.chance(0, -1, 0, 0), NO);
        desk.begin(7);
        desk.pack();
        desk.top();
        due("seven cards", desk.chance(0, 1, 0, 0), NO);
        due("seven cards, never", desk.chance(0, 0, 0, 0), NO);
        desk.begin(1);
        desk.pack();
        desk.top();
        chanceIs("one card", 0, 6, 0, 1, 1);
        desk.begin(3);
        desk.ranked(2);
        desk.top();
        chanceIs("three cards twice", 0, 2, 0, topRows(1, 0, 2), 9);
    }

    /** Walks the nine rows of lots of three CARDS by hand. */
    private static long topRows(int... want) {
        long rows = 0;
        for (int row = 0; row < 9; row++) {
            java.util.List<Integer> order = new java.util.ArrayList<>(java.util.List.of(0, 1, 2));
            order.add(row / 3, order.remove(0));
            order.add(row % 3, order.remove(0));
            rows += order.equals(java.util.List.of(want[0], want[1], want[2])) ? 1 : 0;
        }
        return rows;
    }

    private static void placeIs(String what, int shuffle, int i, int j, long above, long below) {
        fraction(what, desk.place(shuffle, i, j, 0), desk.place(shuffle, i, j, 1), above, below);
    }

    private static void place() {
        start(23, 4);
        desk.riffle(2);
        desk.top();
        desk.riffle(1);
        desk.perfect(0);
        placeIs("top card stays", 0, 0, 0, 9, 16);
        placeIs("top card to 1", 0, 0, 1, 1, 4);
        placeIs("top card to 2", 0, 0, 2, 1, 8);
        placeIs("top card to 3", 0, 0, 3, 1, 16);
        placeIs("last card stays", 0, 3, 3, 9, 16);
        placeIs("last card on top", 0, 3, 0, 1, 16);
        for (int j = 0; j < 4; j++) {
            placeIs("top card of TOP", 1, 0, j, 1, 4);
            placeIs("one heap", 2, 2, j, j == 2 ? 1 : 0, 1);
        }
        placeIs("card 1 of TOP up", 1, 1, 0, 3, 4);
        placeIs("card 1 of TOP stays", 1, 1, 1, 1, 4);
        placeIs("card 1 of TOP down", 1, 1, 2, 0, 1);
        placeIs("last card of TOP up", 1, 3, 2, 1, 4);
        placeIs("last card of TOP stays", 1, 3, 3, 3, 4);
        placeIs("last card of TOP further up", 1, 3, 1, 0, 1);
        placeIs("card 2 of TOP", 1, 2, 2, 1, 2);
        due("it has a move", desk.place(3, 0, 0, 0), NO);
        due("no shuffle", desk.place(4, 0, 0, 0), NO);
        due("no shuffle", desk.place(-1, 0, 0, 0), NO);
        for (int wrong : new int[] {-1, 4, LOWEST, HIGHEST}) {
            due("i " + wrong, desk.place(0, wrong, 0, 0), NO);
            due("j " + wrong, desk.place(1, 0, wrong, 0), NO);
            due("what " + wrong, desk.place(0, 0, 0, wrong), NO);
        }
        due("what 2", desk.place(1, 0, 0, 2), NO);
        desk.begin(10);
        desk.riffle(10);
        desk.top();
        // the top CARD stays if no lot is below the first one
        long rows = 0;
        for (int h = 0; h < 10; h++) {
            rows += power(10 - h, 9);
        }
        long shared = gcd(rows, 10000000000L);
        placeIs("ten heaps of ten", 0, 0, 0, rows / shared, 10000000000L / shared);
        placeIs("top of ten", 1, 9, 8, 1, 10);
    }

    private static long power(long base, int times) {
        return times == 0 ? 1 : base * power(base, times - 1);
    }

    private static long gcd(long a, long b) {
        return b == 0 ? a : gcd(b, a % b);
    }

    private static void farIs(String what, int shuffle, int k, long above, long below) {
        fraction(what, desk.far(shuffle, k, 0), desk.far(shuffle, k, 1), above, below);
    }

    private static void far() {
        start(24, 4);
        desk.riffle(2);
        desk.riffle(1);
        desk.top();
        desk.deal(1);
        farIs("never", 0, 0, 23, 24);
        farIs("once", 0, 1, 1, 2);
        farIs("thrice", 0, 3, 37, 256);
        farIs("one heap", 1, 6, 23, 24);
        farIs("TOP never", 2, 0, 23, 24);
        farIs("TOP once", 2, 1, 5, 6);
        due("four times", desk.far(0, 4, 0), NO);
        due("one heap seven times", desk.far(1, 7, 0), NO);
        due("k below 0", desk.far(0, -1, 0), NO);
        due("TOP seven times", desk.far(2, 7, 0), NO);
        due("it has a move", desk.far(3, 1, 0), NO);
        due("no shuffle", desk.far(4, 1, 0), NO);
        due("no shuffle", desk.far(-1, 1, 0), NO);
        due("what", desk.far(0, 1, 2), NO);
        due("what", desk.far(0, 1, -1), NO);
        desk.begin(1);
        desk.riffle(5);
        desk.top();
        farIs("one card", 0, 1, 0, 1);
        farIs("one card, TOP", 1, 3, 0, 1);
        desk.begin(2);
        desk.riffle(10);
        farIs("two cards", 0, 1, 1, 20);
        desk.begin(5);
        desk.top();
        farIs("five cards once", 0, 1, 23, 24);
        due("five cards four times", desk.far(0, 4, 0), 101);
        desk.begin(7);
        desk.top();
        due("seven cards", desk.far(0, 1, 0), NO);
        desk.begin(10);
        desk.riffle(2);
        // behind one RIFFLE of two heaps every order that can come (2 to the 10 less 10) is likelier than even
        long others = 3628800L - (1024 - 10);
        long shared = gcd(others, 3628800L);
        farIs("ten cards once", 0, 1, others / shared, 3628800L / shared);
    }

    private static void unlike() {
        start(25, 4);
        desk.riffle(2);
        desk.riffle(10);
        desk.riffle(1);
        desk.riffle(4);
        desk.top();
        desk.deal(1);
        fraction("twice", desk.unlike(0, 2, 0), desk.unlike(0, 2, 1), 3, 32);
        fraction("thrice", desk.unlike(0, 3, 0), desk.unlike(0, 3, 1), 105, 256);
        fraction("once", desk.unlike(0, 1, 0), desk.unlike(0, 1, 1), 0, 1);
        fraction("never", desk.unlike(0, 0, 0), desk.unlike(0, 0, 1), 0, 1);
        fraction("ten", desk.unlike(1, 1, 0), desk.unlike(1, 1, 1), 63, 125);
        fraction("one heap", desk.unlike(2, 6, 0), desk.unlike(2, 6, 1), 0, 1);
        fraction("four", desk.unlike(3, 1, 0), desk.unlike(3, 1, 1), 3, 32);
        due("sixteen", desk.unlike(0, 4, 0), NO);
        due("sixteen", desk.unlike(3, 2, 0), NO);
        due("seven times", desk.unlike(2, 7, 0), NO);
        due("k below 0", desk.unlike(2, -1, 0), NO);
        due("what", desk.unlike(0, 1, 2), NO);
        due("what", desk.unlike(0, 1, -1), NO);
        due("TOP", desk.unlike(4, 1, 0), NO);
        due("it has a move", desk.unlike(5, 1, 0), NO);
        due("no shuffle", desk.unlike(6, 1, 0), NO);
        due("no shuffle", desk.unlike(-1, 1, 0), NO);
        desk.begin(1);
        desk.riffle(1);
        fraction("one card", desk.unlike(0, 0, 0), desk.unlike(0, 0, 1), 1, 1);
        desk.begin(10);
        desk.riffle(10);
        desk.riffle(9);
        fraction("ten cards", desk.unlike(0, 1, 0), desk.unlike(0, 1, 1), 567, 1562500);
        fraction("too few rows", desk.unlike(1, 1, 0), desk.unlike(1, 1, 1), 0, 1);
    }

    private static void runs() {
        start(26, 5);
        long[] five = {1, 26, 66, 26, 1};
        for (int r = 1; r <= 5; r++) {
            due("runs " + r, desk.runs(r), five[r - 1]);
        }
        for (int wrong : new int[] {0, -1, 6, 10, LOWEST, HIGHEST}) {
            due("runs " + wrong, desk.runs(wrong), NO);
        }
        desk.begin(10);
        long[] ten = {1, 1013, 47840, 455192, 1310354, 1310354, 455192, 47840, 1013, 1};
        for (int r = 1; r <= 10; r++) {
            due("runs " + r, desk.runs(r), ten[r - 1]);
        }
        due("runs 11", desk.runs(11), NO);
        desk.begin(1);
        due("runs of one card", desk.runs(1), 1);
        due("two runs of one card", desk.runs(2), NO);
    }

    private static void leads() {
        start(27, 6);
        int[] fromTop = {0, 1, 2, 2, 3, 3};
        for (int j = 0; j < 6; j++) {
            due("from 0 to " + j, desk.leads(0, j), fromTop[j]);
            due("from " + j + " to " + j, desk.leads(j, j), 0);
        }
        due("from 5 to 0", desk.leads(5, 0), 3);
        for (int wrong : new int[] {-1, 6, LOWEST, HIGHEST}) {
            due("from " + wrong, desk.leads(wrong, 0), BAD);
            due("to " + wrong, desk.leads(0, wrong), BAD);
        }
        desk.begin(5);
        due("odd", desk.leads(0, 1), STATE);
        due("odd, the same place", desk.leads(2, 2), STATE);
        due("bad comes before odd", desk.leads(5, 0), BAD);
        desk.begin(10);
        due("the longest", desk.leads(0, 9), 4);
    }

    private static void way(int i, int j, int... ones) {
        due("leads " + i + " " + j, desk.leads(i, j), ones.length);
        for (int k = 0; k < ones.length; k++) {
            due("lead " + i + " " + j + " " + k, desk.lead(i, j, k), ones[k]);
        }
        due("behind the last", desk.lead(i, j, ones.length), NONE);
        due("ahead of the first", desk.lead(i, j, -1), NONE);
    }

    private static void lead() {
        start(28, 6);
        way(0, 0);
        way(0, 1, 1);
        way(0, 2, 1, 0);
        way(0, 3, 1, 1);
        way(0, 4, 1, 0, 0);
        way(0, 5, 1, 0, 1);
        // 5 -> 4 -> 3 -> 0
        way(5, 0, 1, 0, 1);
        // 2 -> 4 -> 3 -> 1
        way(2, 1, 0, 0, 0);
        due("k highest", desk.lead(0, 5, HIGHEST), NONE);
        due("k lowest", desk.lead(0, 5, LOWEST), NONE);
        for (int wrong : new int[] {-1, 6, LOWEST, HIGHEST}) {
            due("from " + wrong, desk.lead(wrong, 0, 0), BAD);
            due("to " + wrong, desk.lead(0, wrong, 0), BAD);
        }
        due("bad comes before none", desk.lead(0, 6, 99), BAD);
        desk.begin(3);
        due("odd", desk.lead(0, 1, 0), STATE);
        due("odd, no such one", desk.lead(0, 1, 99), STATE);
        due("bad comes before odd", desk.lead(3, 1, 0), BAD);
        desk.begin(2);
        way(1, 0, 1);
    }

    private static void group() {
        start(29, 4);
        int[] groups = {STATE, 2, STATE, 8, STATE, 24, STATE, 24, STATE, 1920};
        due("a new desk", desk.group(), 8);
        for (int n = 1; n <= 10; n++) {
            desk.begin(n);
            due("group of " + n, desk.group(), groups[n - 1]);
        }
        due("asking makes nothing", desk.count(1) + desk.count(2), 0);
    }

    private static void acted(String what, int shuffle, int act, int x, int answer, int... bodies) {
        due(what, desk.act(shuffle, act, x), answer);
        due(what + ": bodies", desk.count(3), bodies.length);
        for (int i = 0; i < bodies.length; i++) {
            due(what + ": body " + i, desk.trace(i), bodies[i]);
        }
        due(what + ": behind the last body", desk.trace(bodies.length), NONE);
    }

    private static void act() {
        start(30, 6);
        desk.pack();
        desk.perfect(0);
        desk.move(0);
        acted("move lays", 1, 0, 5, 6, 10);
        acted("move cuts", 1, 1, 5, 12, 11, 10);
        acted("move turns", 1, 2, 5, 12 ^ 7, 12, 11, 10, 10);
        acted("wrapping", 1, 0, HIGHEST, LOWEST, 10);
        acted("wrapping", 1, 1, HIGHEST, 0, 11, 10);
        acted("no such act", 1, 3, 5, 0);
        acted("turns", 1, 2, 0, 2 ^ 2, 12, 11, 10, 10);
        acted("no such act", 1, -1, 5, 0);
        acted("lays", 1, 0, 0, 1, 10);
        acted("no such shuffle", 2, 0, 5, 0);
        acted("lays", 1, 0, 0, 1, 10);
        acted("no such shuffle", -1, 0, 5, 0);
        acted("lays", 1, 0, 0, 1, 10);
        acted("no such at all", LOWEST, HIGHEST, 5, 0);
    }

    private static void actOfEachKind() {
        start(30, 6);
        desk.perfect(0);
        desk.perfect(1);
        acted("perfect lays", 1, 0, 4, 5, 10);
        acted("perfect cuts", 1, 1, 4, 11, 20, 11, 10);
        acted("perfect turns", 1, 2, 4, 11 ^ 6, 12, 20, 11, 10, 10);
        desk.deal(3);
        acted("deal lays", 2, 0, 4, 3, 30, 10);
        acted("deal cuts", 2, 1, 4, 9, 11, 30, 10);
        acted("deal turns", 2, 2, 4, (9 ^ 4) * 2, 31, 12, 11, 30, 10, 30, 10);
        desk.riffle(5);
        acted("riffle lays", 3, 0, 4, 2, 30, 10);
        acted("riffle cuts", 3, 1, 4, 12, 40, 11, 30, 10, 30, 10);
        acted("riffle turns", 3, 2, 4, (12 ^ 3) * 2, 31, 12, 40, 11, 30, 10, 30, 10, 30, 10);
        desk.top();
        acted("top lays", 4, 0, 4, 10, 50, 30, 10);
        acted("top cuts", 4, 1, 4, 60 + 2, 40, 11, 50, 30, 10, 30, 10);
        acted("top turns", 4, 2, 4, 62 - (62 ^ 13) * 2,
                51, 40, 11, 50, 30, 10, 30, 10, 31, 12, 40, 11, 50, 30, 10, 30, 10, 50, 30, 10);
        int x = 0x7abcdef1;
        int lays = x * 3 + 4 - 6;
        int cuts = lays * 6 + (x + 4 - 6);
        int turns = cuts - (cuts ^ ((x + 1) * 3 + 4 - 6)) * 2;
        due("top turns wraps", desk.act(4, 2, x), turns);
    }

    private static void trace() {
        start(31, 4);
        due("at first", desk.trace(0), NONE);
        desk.top();
        desk.act(0, 2, 1);
        due("first body", desk.trace(0), 51);
        due("last body", desk.trace(19), 10);
        for (int none : new int[] {20, 39, 40, -1, LOWEST, HIGHEST}) {
            due("trace " + none, desk.trace(none), NONE);
        }
        desk.act(0, 0, 1);
        due("the latest act", desk.trace(0), 50);
        due("nothing of an earlier act", desk.trace(3), NONE);
        desk.act(0, 9, 1);
        due("no trace then", desk.trace(0), NONE);
    }

    private static void count() {
        start(32, 7);
        due("cards", desk.count(0), 7);
        desk.pack();
        desk.ranked(5);
        desk.top();
        desk.act(0, 1, 1);
        due("packs", desk.count(1), 2);
        due("shuffles", desk.count(2), 1);
        due("bodies", desk.count(3), 7);
        desk.act(1, 1, 1);
        due("no bodies", desk.count(3), 0);
        for (int wrong : new int[] {-1, 4, LOWEST, HIGHEST}) {
            due("count " + wrong, desk.count(wrong), BAD);
        }
    }

    private static void tray() {
        start(33, 1);
        for (int tray = 0; tray < 4; tray++) {
            due("bytes", desk.tray(tray, 0, 40), 1);
            due("last item", desk.cell(tray, 39, 1), 1);
            due("beyond", desk.cell(tray, 40, 1), OUTSIDE);
            due("empty", desk.tray(tray, 2, 0), 1);
            due("no item", desk.cell(tray, 0, 1), OUTSIDE);
            due("missing", desk.tray(tray, -1, -99), 1);
            due("nothing", desk.cell(tray, 0, 1), NOTHING);
            due("missing again, n above 40", desk.tray(tray, -1, 99), 1);
        }
        desk.tray(0, 1, 2);
        desk.cell(0, 0, 7);
        desk.cell(0, 1, 7);
        due("n above 40", desk.tray(0, 1, 41), BAD);
        due("n highest", desk.tray(0, 1, HIGHEST), BAD);
        due("n below 0", desk.tray(0, 1, -1), BELOW);
        due("n lowest", desk.tray(0, 1, LOWEST), BELOW);
        due("no tray", desk.tray(4, 1, 1), BAD);
        due("no tray", desk.tray(-1, -1, 1), BAD);
        due("no sort", desk.tray(0, 3, 1), BAD);
        due("no sort", desk.tray(0, -2, 1), BAD);
        due("no sort comes before -14", desk.tray(0, 3, -1), BAD);
        due("a refusal keeps the items", desk.told(0, 1, 0), STATE);
        due("a refusal keeps the size", desk.cell(0, 1, 7), 1);
        due("made anew", desk.tray(0, 1, 2), 1);
        due("all items are 0", desk.told(0, 1, 0), 0);
        due("all items are 0", desk.told(0, 1, 1), 1);
        desk.tray(0, 0, 3);
        due("another sort now", desk.told(0, 1, 0), OTHER);
    }

    private static void cell() {
        start(34, 2);
        desk.tray(0, 0, 2);
        desk.tray(1, 1, 2);
        desk.tray(2, 2, 2);
        for (int tray = 0; tray < 3; tray++) {
            due("cell", desk.cell(tray, 0, 1), 1);
            due("it is so", desk.told(tray, tray, 0), tray);
            order("it is so", tray, 1, 0);
            due("below 0", desk.cell(tray, -1, 1), OUTSIDE);
            due("beyond", desk.cell(tray, 2, 1), OUTSIDE);
            due("lowest", desk.cell(tray, LOWEST, 1), OUTSIDE);
            due("highest", desk.cell(tray, HIGHEST, 1), OUTSIDE);
        }
        desk.cell(0, 0, 0x7f00);
        desk.cell(0, 1, -255);
        due("the lowest 8 bits", desk.told(0, 0, 0), 3);
        order("the lowest 8 bits", 3, 0, 1);
        desk.cell(1, 0, 0x10000);
        desk.cell(1, 1, -65535);
        due("the lowest 16 bits", desk.told(1, 1, 0), 4);
        order("the lowest 16 bits", 4, 0, 1);
        desk.cell(1, 0, 0x100);
        due("not the lowest 8 bits alone", desk.told(1, 1, 0), STATE);
        desk.cell(2, 0, 0x10000);
        desk.cell(2, 1, 1);
        due("all bits", desk.told(2, 2, 0), STATE);
        due("missing", desk.cell(3, 0, 1), NOTHING);
        due("missing, and outside", desk.cell(3, -1, 1), NOTHING);
        due("no tray", desk.cell(4, 0, 1), BAD);
        due("no tray", desk.cell(-1, 0, 1), BAD);
    }

    private static void trayOfOrder(int tray, int sort, int... items) {
        desk.tray(tray, sort, items.length);
        for (int i = 0; i < items.length; i++) {
            desk.cell(tray, i, items[i]);
        }
    }

    private static void toldIs(String what, int tray, int sort, int from, int... cards) {
        int pack = desk.told(tray, sort, from);
        due(what + " is told", pack, desk.count(1) - 1);
        order(what, pack, cards);
    }

    private static void copy() {
        start(35, 3);
        for (int sort = 0; sort < 3; sort++) {
            desk.begin(3);
            trayOfOrder(0, sort, 2, 0, 1, 2, 1);
            desk.tray(1, sort, 4);
            due("to another", desk.copy(0, 0, 1, 1, 3), 3);
            toldIs("to another", 1, sort, 1, 2, 0, 1);
            toldIs("the source stays", 0, sort, 0, 2, 0, 1);
            due("down in the same", desk.copy(0, 0, 0, 1, 3), 3);
            toldIs("down in the same", 0, sort, 1, 2, 0, 1);
            trayOfOrder(0, sort, 1, 2, 0, 1);
            due("up in the same", desk.copy(0, 1, 0, 0, 3), 3);
            toldIs("up in the same", 0, sort, 0, 2, 0, 1);
            due("nothing at the ends", desk.copy(0, 4, 1, 4, 0), 0);
            due("nothing beyond the end", desk.copy(0, 5, 1, 0, 0), OUTSIDE);
            due("nothing beyond the other's end", desk.copy(0, 0, 1, 5, 0), OUTSIDE);
            due("too many", desk.copy(0, 0, 0, 0, 5), OUTSIDE);
            due("beyond the source", desk.copy(0, 2, 1, 0, 3), OUTSIDE);
            due("beyond the target", desk.copy(0, 0, 1, 2, 3), OUTSIDE);
            due("n below 0", desk.copy(0, 1, 1, 1, -1), OUTSIDE);
            due("i below 0", desk.copy(0, -1, 1, 0, 1), OUTSIDE);
            due("j below 0", desk.copy(0, 0, 1, -1, 1), OUTSIDE);
            due("a sum that wraps", desk.copy(0, HIGHEST, 1, 0, 1), OUTSIDE);
            due("a sum that wraps", desk.copy(0, 1, 1, 1, HIGHEST), OUTSIDE);
            due("lowest", desk.copy(0, LOWEST, 1, LOWEST, LOWEST), OUTSIDE);
            toldIs("refusals change nothing", 0, sort, 0, 2, 0, 1);
            desk.tray(2, (sort + 1) % 3, 4);
            due("another sort", desk.copy(0, 0, 2, 0, 1), OTHER);
            due("another sort comes before outside", desk.copy(0, -1, 2, 0, 1), OTHER);
        }
        due("missing", desk.copy(3, 0, 0, 0, 1), NOTHING);
        due("missing", desk.copy(0, 0, 3, 0, 1), NOTHING);
        due("both missing", desk.copy(3, 9, 3, 9, -1), NOTHING);
        due("no tray", desk.copy(4, 0, 0, 0, 1), BAD);
        due("no tray", desk.copy(0, 0, 4, 0, 1), BAD);
        due("no tray comes before missing", desk.copy(3, 0, -1, 0, 1), BAD);
        due("no tray comes before missing", desk.copy(-1, 0, 3, 0, 1), BAD);
    }

    private static void taken() {
        start(36, 6);
        desk.move(desk.pack());
        desk.perfect(0);
        desk.deal(4);
        desk.riffle(7);
        desk.top();
        int[][] heaps = {
            {2, OTHER, OTHER, OTHER, OTHER},
            {2, 2, OTHER, OTHER, OTHER},
            {4, OTHER, 4, OTHER, OTHER},
            {7, OTHER, 7, 7, OTHER},
            {6, OTHER, 6, 6, 6},
        };
        for (int s = 0; s < 5; s++) {
            for (int k = 0; k < 5; k++) {
                due("taken " + s + " " + k, desk.taken(s, k), heaps[s][k]);
            }
            due("no kind", desk.taken(s, 5), BAD);
            due("no kind", desk.taken(s, -1), BAD);
        }
        for (int wrong : new int[] {-1, 5, LOWEST, HIGHEST}) {
            due("no shuffle", desk.taken(wrong, 0), NOTHING);
            due("no kind comes before no shuffle", desk.taken(wrong, wrong), BAD);
        }
    }
}
