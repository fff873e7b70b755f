/** The boundaries that promises 8 to 21 name: SHUFFLES, what they are, and what they do with PACKS. */
public final class ShuffleEdgesTest extends Edges {
    private static final int[] FAR_AWAY = {-1, LOWEST, HIGHEST};

    private ShuffleEdgesTest() {
        super("ShuffleEdgesTest", 8, 21);
    }

    public static void main(String[] args) {
        new ShuffleEdgesTest().run();
    }

    private void run() {
        making();
        asking();
        doing();
        end();
    }

    private void making() {
        sentence(8, "BAD: no such PACK", this::movePack);
        sentence(8, "the order of a PACK (as it is now)", this::moveNow);
        sentence(8, "SHUFFLES (10 at most); FULL", this::moveFull);
        sentence(9, "BAD: way", this::perfectWay);
        sentence(9, "STATE: n is odd", this::perfectOdd);
        sentence(9, "way 0: the top CARD stays; way 1: that of the lower half comes on top", this::perfectMove);
        sentence(9, "no SHUFFLES any more: nothing of an earlier one shows", this::perfectAnew);
        sentence(9, "FULL", this::perfectFull);
        sentence(9, "BAD ahead of STATE ahead of FULL", this::perfectInOrder);
        sentence(10, "into h heaps (1 .. n); BAD", this::dealHeaps);
        sentence(10, "each onto what lies there; heap 0 lies on heap 1", this::dealMove);
        sentence(10, "FULL", this::dealFull);
        sentence(11, "of a heaps (1 .. 10); BAD", this::riffleHeaps);
        sentence(11, "FULL", this::riffleFull);
        sentence(12, "FULL", this::topFull);
        sentence(13, "BAD: no such", this::behindBad);
        sentence(13, "STATE: one has no MOVE", this::behindState);
        sentence(13, "one SHUFFLE and behind it another one (KIND 0)", this::behindMove);
        sentence(13, "of the fewest and the most CARDS", this::behindCards);
        sentence(13, "FULL", this::behindFull);
        sentence(14, "BAD: no such", this::backBad);
        sentence(14, "STATE: it has no MOVE", this::backState);
        sentence(14, "The MOVE that undoes one (KIND 0)", this::backMove);
        sentence(14, "FULL", this::backFull);
    }

    private void asking() {
        sentence(15, "NONE: it has no MOVE", this::movesNone);
        sentence(15, "BAD: no such SHUFFLE", this::movesShuffle);
        sentence(15, "BAD: no such place", this::movesPlace);
        sentence(16, "BAD: no such SHUFFLE", this::shuffleToldShuffle);
        sentence(16, "0 KIND, 1 heaps, 2 ROUNDS, 3 the least e. BAD", this::shuffleToldWhat);
        sentence(16, "heaps (DEAL h, RIFFLE a, TOP n, else 2)", this::shuffleToldHeaps);
        sentence(16, "NONE: no MOVE", this::shuffleToldNone);
        sentence(16, "ROUNDS: its cycles (also of one place)", this::shuffleToldRounds);
        sentence(16, "the least e above 0", this::shuffleToldLeast);
        sentence(17, "the POWER to the e (0 and more); BAD: e below 0", this::powerE);
        sentence(17, "BAD: no such", this::powerBad);
        sentence(17, "NONE: no MOVE", this::powerNone);
    }

    private void doing() {
        sentence(18, "BAD", this::doesBad);
        sentence(18, "STATE: it has none", this::doesState);
        sentence(18, "done with a PACK of the fewest and the most CARDS", this::doesCards);
        sentence(19, "BAD: no such SHUFFLE, PACK", this::lotsNumbers);
        sentence(19, "STATE: it has a MOVE", this::lotsState);
        sentence(19, "BAD: lots is not 0 .. (heaps to the n) less 1", this::lotsOfRiffle);
        sentence(19, "BAD: lots is not 0 .. (of a TOP n) less 1", this::lotsOfTop);
        sentence(19, "in this order", this::lotsInOrder);
        sentence(19, "l(0) + l(1) * heaps + ..", this::lotsLaid);
        sentence(20, "NO: no such", this::drawNumbers);
        sentence(20, "NO: it has a MOVE", this::drawMove);
        sentence(20, "It is done with DRAWN lots: these, told as one number", this::drawDone);
        sentence(20, "till v is below as many lots as there are", this::drawTill);
        sentence(20, "For RIFFLES n times, for TOP once", this::drawTimes);
        sentence(20, "an int that wraps", this::drawWraps);
        sentence(21, "The seed becomes s: what it was", this::seedAny);
    }

    /** SHUFFLES 0 .. 4, one of each KIND in turn; the number of CARDS is even. */
    private void oneOfEach() {
        desk.pack();
        desk.move(0);
        desk.perfect(1);
        desk.deal(2);
        desk.riffle(3);
        desk.top();
    }

    // ---- 8

    private void movePack() {
        fillPacks();
        inside("pack 0", desk.move(0), 0);
        inside("pack 11", desk.move(11), 1);
        outside("pack 12", desk.move(12), BAD);
        for (int wrong : FAR_AWAY) {
            outside("pack " + wrong, desk.move(wrong), BAD);
        }
        inside("shuffles", desk.count(2), 2);
        desk.begin(4);
        outside("no packs", desk.move(0), BAD);
    }

    private void moveNow() {
        fresh(3);
        desk.ranked(3);
        inside("move", desk.move(0), 0);
        inside("its m", moveOf(0), code("120"));
        desk.does(0, 0);
        inside("the pack is another", orderOf(0), code("201"));
        inside("m stays", moveOf(0), code("120"));
        inside("as it is now", desk.move(0), 1);
        inside("as it is now", moveOf(1), code("201"));
        outside("behind the last place", desk.moves(1, 3), BAD);
    }

    private void moveFull() {
        desk.pack();
        for (int i = 0; i < 10; i++) {
            inside("move " + i, desk.move(0), i);
        }
        outside("an eleventh", desk.move(0), FULL);
        outside("BAD ahead of FULL", desk.move(1), BAD);
        inside("shuffles", desk.count(2), 10);
    }

    // ---- 9

    private void perfectWay() {
        inside("way 0", desk.perfect(0), 0);
        inside("way 1", desk.perfect(1), 1);
        outside("way 2", desk.perfect(2), BAD);
        for (int wrong : FAR_AWAY) {
            outside("way " + wrong, desk.perfect(wrong), BAD);
        }
        inside("shuffles", desk.count(2), 2);
    }

    private void perfectOdd() {
        for (int n = 1; n <= 10; n++) {
            fresh(n);
            for (int way = 0; way < 2; way++) {
                if (n % 2 == 0) {
                    inside(n + " cards, way " + way, desk.perfect(way), way);
                } else {
                    outside(n + " cards, way " + way, desk.perfect(way), STATE);
                }
            }
        }
    }

    private void perfectMove() {
        String[] outer = {"01", "0213", "031425", "04152637", "0516273849"};
        String[] inner = {"10", "2031", "304152", "40516273", "5061728394"};
        for (int half = 1; half <= 5; half++) {
            fresh(2 * half);
            desk.perfect(0);
            desk.perfect(1);
            inside("outer", moveOf(0), code(outer[half - 1]));
            inside("inner", moveOf(1), code(inner[half - 1]));
            outside("no further place", desk.moves(0, 2 * half), BAD);
        }
    }

    private void perfectAnew() {
        for (int n = 2; n <= 10; n += 2) {
            fresh(n);
            desk.perfect(0);
            desk.perfect(1);
            long outer = moveOf(0);
            long inner = moveOf(1);
            desk.begin(10);
            desk.deal(1);
            desk.deal(1);
            desk.begin(n);
            outside("no shuffle yet", desk.moves(0, 0), BAD);
            desk.perfect(0);
            desk.perfect(1);
            inside("outer", moveOf(0), outer);
            inside("inner", moveOf(1), inner);
        }
    }

    private void perfectFull() {
        for (int i = 0; i < 10; i++) {
            inside("perfect " + i, desk.perfect(i % 2), i);
        }
        outside("an eleventh", desk.perfect(0), FULL);
        outside("an eleventh", desk.perfect(1), FULL);
        inside("shuffles", desk.count(2), 10);
    }

    private void perfectInOrder() {
        fillShuffles();
        inside("only full", desk.perfect(1), FULL);
        outside("BAD ahead of FULL", desk.perfect(2), BAD);
        desk.begin(9);
        fillShuffles();
        outside("STATE ahead of FULL", desk.perfect(1), STATE);
        outside("BAD ahead of STATE", desk.perfect(-1), BAD);
    }

    // ---- 10

    private void dealHeaps() {
        for (int n = 1; n <= 10; n++) {
            fresh(n);
            inside("1 heap of " + n, desk.deal(1), 0);
            inside(n + " heaps of " + n, desk.deal(n), 1);
            outside(n + 1 + " heaps of " + n, desk.deal(n + 1), BAD);
            outside("0 heaps", desk.deal(0), BAD);
            inside("shuffles", desk.count(2), 2);
        }
        for (int wrong : FAR_AWAY) {
            outside("heaps " + wrong, desk.deal(wrong), BAD);
        }
    }

    private void dealMove() {
        for (int n = 1; n <= 10; n++) {
            fresh(n);
            desk.deal(1);
            inside("one heap turns all", moveOf(0), code(lastOrder(n)));
            desk.deal(n);
            inside("a heap for each leaves all", moveOf(1), code(firstOrder(n)));
            outside("no further place", desk.moves(1, n), BAD);
        }
        String[] ofSeven = {"6420531", "6304152", "4051623", "5061234", "6012345"};
        fresh(7);
        for (int heaps = 2; heaps <= 6; heaps++) {
            inside(heaps + " heaps", desk.deal(heaps), heaps - 2);
            inside(heaps + " heaps of seven", moveOf(heaps - 2), code(ofSeven[heaps - 2]));
        }
    }

    private void dealFull() {
        for (int i = 0; i < 10; i++) {
            inside("deal " + i, desk.deal(1 + i % 4), i);
        }
        outside("an eleventh", desk.deal(4), FULL);
        outside("BAD ahead of FULL", desk.deal(5), BAD);
        outside("BAD ahead of FULL", desk.deal(0), BAD);
        inside("the last one stays", moveOf(9), code("2031"));
    }

    // ---- 11, 12

    private void riffleHeaps() {
        for (int n : new int[] {1, 4, 10}) {
            fresh(n);
            inside("1 heap", desk.riffle(1), 0);
            inside("10 heaps", desk.riffle(10), 1);
            outside("11 heaps", desk.riffle(11), BAD);
            outside("0 heaps", desk.riffle(0), BAD);
            for (int wrong : FAR_AWAY) {
                outside("heaps " + wrong, desk.riffle(wrong), BAD);
            }
            inside("shuffles", desk.count(2), 2);
            inside("its heaps", desk.shuffleTold(1, 1), 10);
        }
    }

    private void riffleFull() {
        for (int i = 0; i < 10; i++) {
            inside("riffle " + i, desk.riffle(1 + i), i);
        }
        outside("an eleventh", desk.riffle(1), FULL);
        outside("BAD ahead of FULL", desk.riffle(11), BAD);
        inside("the last one stays", desk.shuffleTold(9, 1), 10);
    }

    private void topFull() {
        for (int n : new int[] {1, 10}) {
            fresh(n);
            for (int i = 0; i < 10; i++) {
                inside("top " + i, desk.top(), i);
            }
            outside("an eleventh", desk.top(), FULL);
            inside("shuffles", desk.count(2), 10);
        }
    }

    // ---- 13

    private void behindBad() {
        desk.deal(1);
        desk.deal(2);
        inside("the first and the last", desk.behind(0, 1), 2);
        inside("the last and the first", desk.behind(2, 0), 3);
        for (int wrong : new int[] {-1, 4, 9, 10, LOWEST, HIGHEST}) {
            outside(wrong + " first", desk.behind(wrong, 0), BAD);
            outside(wrong + " behind", desk.behind(0, wrong), BAD);
        }
        inside("shuffles", desk.count(2), 4);
    }

    private void behindState() {
        oneOfEach();
        for (int a = 0; a < 3; a++) {
            inside("of kind 0 and " + a, desk.behind(0, a), 5 + a);
            for (int b = 3; b < 5; b++) {
                outside(a + " and " + b, desk.behind(a, b), STATE);
                outside(b + " and " + a, desk.behind(b, a), STATE);
            }
        }
        outside("both have none", desk.behind(3, 4), STATE);
        outside("BAD ahead of STATE", desk.behind(3, 8), BAD);
        outside("BAD ahead of STATE", desk.behind(-1, 4), BAD);
    }

    private void behindMove() {
        fresh(3);
        desk.move(packOf("120"));
        desk.move(packOf("102"));
        desk.behind(0, 1);
        desk.behind(1, 0);
        desk.behind(2, 2);
        inside("one and another", moveOf(2), code("210"));
        inside("the other way", moveOf(3), code("021"));
        inside("one twice", moveOf(4), code("012"));
        inside("kind", desk.shuffleTold(2, 0), 0);
        desk.deal(3);
        desk.behind(5, 5);
        inside("kind of two deals", desk.shuffleTold(6, 0), 0);
        outside("it is no deal", desk.taken(6, 2), OTHER);
    }

    private void behindCards() {
        for (int n : new int[] {1, 2, 9, 10}) {
            fresh(n);
            desk.deal(1);
            inside("turned twice", desk.behind(0, 0), 1);
            inside("all as it was", moveOf(1), code(firstOrder(n)));
            inside("turned thrice", desk.behind(1, 0), 2);
            inside("turned thrice", moveOf(2), code(lastOrder(n)));
            outside("no further place", desk.moves(2, n), BAD);
        }
    }

    private void behindFull() {
        desk.deal(1);
        desk.riffle(1);
        for (int i = 2; i < 10; i++) {
            inside("behind " + i, desk.behind(0, 0), i);
        }
        outside("an eleventh", desk.behind(0, 9), FULL);
        outside("STATE ahead of FULL", desk.behind(0, 1), STATE);
        outside("STATE ahead of FULL", desk.behind(1, 0), STATE);
        outside("BAD ahead of FULL", desk.behind(0, 10), BAD);
        outside("BAD ahead of FULL", desk.behind(10, 0), BAD);
    }

    // ---- 14

    private void backBad() {
        outside("no shuffles", desk.back(0), BAD);
        desk.deal(2);
        inside("the first", desk.back(0), 1);
        inside("the last", desk.back(1), 2);
        outside("one further", desk.back(3), BAD);
        for (int wrong : FAR_AWAY) {
            outside("shuffle " + wrong, desk.back(wrong), BAD);
        }
        inside("shuffles", desk.count(2), 3);
    }

    private void backState() {
        oneOfEach();
        for (int s = 0; s < 3; s++) {
            inside("of kind " + s, desk.back(s), 5 + s);
        }
        outside("riffle", desk.back(3), STATE);
        outside("top", desk.back(4), STATE);
    }

    private void backMove() {
        fresh(6);
        desk.perfect(1);
        desk.back(0);
        inside("perfect", moveOf(0), code("304152"));
        inside("back", moveOf(1), code("135024"));
        inside("kind", desk.shuffleTold(1, 0), 0);
        desk.behind(0, 1);
        desk.behind(1, 0);
        inside("one and back", moveOf(2), code("012345"));
        inside("back and one", moveOf(3), code("012345"));
        outside("it is no perfect one", desk.taken(1, 1), OTHER);
    }

    private void backFull() {
        desk.deal(1);
        desk.top();
        for (int i = 2; i < 10; i++) {
            inside("back " + i, desk.back(0), i);
        }
        outside("an eleventh", desk.back(9), FULL);
        outside("STATE ahead of FULL", desk.back(1), STATE);
        outside("BAD ahead of FULL", desk.back(10), BAD);
    }

    // ---- 15

    private void movesNone() {
        oneOfEach();
        for (int i = 0; i < 4; i++) {
            inside("move", desk.moves(0, i), i);
            outside("riffle", desk.moves(3, i), NONE);
            outside("top", desk.moves(4, i), NONE);
        }
        inside("perfect", moveOf(1), code("2031"));
        inside("deal", moveOf(2), code("2031"));
    }

    private void movesShuffle() {
        outside("no shuffles", desk.moves(0, 0), BAD);
        for (int i = 0; i < 10; i++) {
            desk.deal(1);
        }
        inside("the first", desk.moves(0, 0), 3);
        inside("the last", desk.moves(9, 0), 3);
        outside("one further", desk.moves(10, 0), BAD);
        for (int wrong : FAR_AWAY) {
            outside("shuffle " + wrong, desk.moves(wrong, 0), BAD);
        }
    }

    private void movesPlace() {
        for (int n = 1; n <= 10; n++) {
            fresh(n);
            desk.deal(1);
            desk.top();
            inside("the first place", desk.moves(0, 0), n - 1);
            inside("the last place", desk.moves(0, n - 1), 0);
            outside("behind the last place", desk.moves(0, n), BAD);
            outside("place -1", desk.moves(0, -1), BAD);
            outside("of a TOP too", desk.moves(1, n), BAD);
        }
        outside("lowest", desk.moves(0, LOWEST), BAD);
        outside("highest", desk.moves(0, HIGHEST), BAD);
    }

    // ---- 16

    private void shuffleToldShuffle() {
        for (int what = 0; what < 4; what++) {
            outside("no shuffles", desk.shuffleTold(0, what), BAD);
        }
        fillShuffles();
        inside("the first", desk.shuffleTold(0, 0), 3);
        inside("the last", desk.shuffleTold(9, 0), 3);
        for (int wrong : new int[] {-1, 10, LOWEST, HIGHEST}) {
            outside("shuffle " + wrong, desk.shuffleTold(wrong, 0), BAD);
        }
    }

    private void shuffleToldWhat() {
        oneOfEach();
        int[][] told = {{0, 2, 4, 1}, {1, 2, 1, 4}, {2, 2, 1, 4}, {3, 3, NONE, NONE}, {4, 4, NONE, NONE}};
        for (int s = 0; s < 5; s++) {
            for (int what = 0; what < 4; what++) {
                inside("shuffle " + s + " what " + what, desk.shuffleTold(s, what), told[s][what]);
            }
            for (int wrong : new int[] {-1, 4, LOWEST, HIGHEST}) {
                outside("shuffle " + s + " what " + wrong, desk.shuffleTold(s, wrong), BAD);
            }
        }
    }

    private void shuffleToldHeaps() {
        fresh(10);
        desk.deal(1);
        desk.deal(10);
        desk.riffle(1);
        desk.riffle(10);
        desk.top();
        desk.perfect(0);
        desk.back(0);
        int[] heaps = {1, 10, 1, 10, 10, 2, 2};
        for (int s = 0; s < heaps.length; s++) {
            inside("heaps of " + s, desk.shuffleTold(s, 1), heaps[s]);
        }
        desk.begin(1);
        desk.top();
        inside("top of one card", desk.shuffleTold(0, 1), 1);
        outside("no further shuffle", desk.shuffleTold(1, 1), BAD);
    }

    private void shuffleToldNone() {
        oneOfEach();
        for (int what = 2; what < 4; what++) {
            inside("of kind 2", desk.shuffleTold(2, what), what == 2 ? 1 : 4);
            outside("of kind 3", desk.shuffleTold(3, what), NONE);
            outside("of kind 4", desk.shuffleTold(4, what), NONE);
        }
    }

    private void shuffleToldRounds() {
        for (int n = 1; n <= 10; n++) {
            fresh(n);
            desk.deal(n);
            inside("all of one place", desk.shuffleTold(0, 2), n);
            desk.move(packOf(firstOrder(n).substring(1) + "0"));
            inside("one of all places", desk.shuffleTold(1, 2), 1);
            desk.deal(1);
            inside("pairs, and one place in the midst", desk.shuffleTold(2, 2), (n + 1) / 2);
            outside("what 4", desk.shuffleTold(2, 4), BAD);
        }
    }

    private void shuffleToldLeast() {
        for (int n = 1; n <= 10; n++) {
            fresh(n);
            desk.deal(n);
            inside("1 if it leaves all as it was", desk.shuffleTold(0, 3), 1);
            desk.move(packOf(firstOrder(n).substring(1) + "0"));
            inside("as many as places", desk.shuffleTold(1, 3), n);
            outside("what 4", desk.shuffleTold(1, 4), BAD);
        }
        fresh(10);
        desk.move(packOf("1034267895"));
        inside("the most of ten: 2, 3, 5", desk.shuffleTold(0, 3), 30);
        desk.move(packOf("1234507698"));
        inside("6, 2, 2", desk.shuffleTold(1, 3), 6);
        desk.move(packOf("1230567498"));
        inside("4, 4, 2", desk.shuffleTold(2, 3), 4);
        desk.move(packOf("1230567894"));
        inside("4, 6", desk.shuffleTold(3, 3), 12);
    }

    // ---- 17

    private void powerE() {
        fresh(5);
        desk.move(packOf("12043"));
        long[] codes = {code("01234"), code("12043"), code("20134"), code("01243"), code("12034"), code("20143")};
        for (int e = 0; e < 6; e++) {
            inside("e " + e, powerCode(e), codes[e]);
            inside("e " + e + " and one turn more", powerCode(e + 6), codes[e]);
        }
        // the greatest int and the greatest long are 1 more than a multiple of 6
        inside("greatest int", powerCode(HIGHEST), codes[1]);
        inside("one more than an int", powerCode(HIGHEST + 1L), codes[2]);
        inside("no int is in between", powerCode(1L << 32), codes[4]);
        inside("greatest long", powerCode(Long.MAX_VALUE), codes[1]);
        for (long wrong : new long[] {-1, -6, LOWEST, Long.MIN_VALUE, Long.MIN_VALUE + 1}) {
            outside("e " + wrong, desk.power(0, wrong, 0), BAD);
        }
    }

    private long powerCode(long e) {
        long code = 1;
        for (int i = 0; i < desk.count(0); i++) {
            code = code * 10 + desk.power(0, e, i);
        }
        return code;
    }

    private void powerBad() {
        for (int n = 1; n <= 10; n++) {
            fresh(n);
            outside("no shuffles", desk.power(0, 0, 0), BAD);
            desk.deal(1);
            inside("the first place", desk.power(0, 1, 0), n - 1);
            inside("the last place", desk.power(0, 1, n - 1), 0);
            outside("behind the last place", desk.power(0, 1, n), BAD);
            outside("place -1", desk.power(0, 1, -1), BAD);
            outside("shuffle 1", desk.power(1, 1, 0), BAD);
            outside("shuffle -1", desk.power(-1, 1, 0), BAD);
        }
        outside("lowest", desk.power(0, 0, LOWEST), BAD);
        outside("highest", desk.power(0, 0, HIGHEST), BAD);
    }

    private void powerNone() {
        oneOfEach();
        for (int s = 0; s < 3; s++) {
            inside("e 0 of kind " + s, desk.power(s, 0, 3), 3);
        }
        for (int s = 3; s < 5; s++) {
            outside("e 0 of kind " + s, desk.power(s, 0, 3), NONE);
            outside("e 1 of kind " + s, desk.power(s, 1, 0), NONE);
            outside("greatest e of kind " + s, desk.power(s, Long.MAX_VALUE, 0), NONE);
        }
    }

    // ---- 18

    private void doesBad() {
        outside("nothing there", desk.does(0, 0), BAD);
        desk.deal(1);
        outside("no packs", desk.does(0, 0), BAD);
        fillPacks();
        inside("pack 0", desk.does(0, 0), 1);
        inside("pack 11", desk.does(0, 11), 1);
        outside("pack 12", desk.does(0, 12), BAD);
        outside("shuffle 1", desk.does(1, 0), BAD);
        for (int wrong : FAR_AWAY) {
            outside("pack " + wrong, desk.does(0, wrong), BAD);
            outside("shuffle " + wrong, desk.does(wrong, 0), BAD);
        }
        inside("pack 0 is turned", orderOf(0), code("3210"));
        inside("pack 1 is not", orderOf(1), code("0123"));
        inside("pack 11 is turned", orderOf(11), code("3210"));
    }

    private void doesState() {
        oneOfEach();
        for (int s = 0; s < 3; s++) {
            inside("of kind " + s, desk.does(s, 0), 1);
        }
        inside("inner, then two heaps", orderOf(0), code("3210"));
        for (int s = 3; s < 5; s++) {
            outside("of kind " + s, desk.does(s, 0), STATE);
            outside("BAD ahead of STATE", desk.does(s, 1), BAD);
        }
        inside("as it was", orderOf(0), code("3210"));
    }

    private void doesCards() {
        for (int n : new int[] {1, 2, 9, 10}) {
            fresh(n);
            desk.pack();
            desk.deal(1);
            inside("does", desk.does(0, 0), 1);
            inside("turned", orderOf(0), code(lastOrder(n)));
            inside("does again", desk.does(0, 0), 1);
            inside("turned back", orderOf(0), code(firstOrder(n)));
            outside("no further place", desk.card(0, n), BAD);
        }
    }

    // ---- 19

    private void lotsNumbers() {
        outside("nothing there", desk.lots(0, 0, 0), BAD);
        desk.riffle(2);
        outside("no packs", desk.lots(0, 0, 0), BAD);
        fillPacks();
        fillShuffles();
        inside("the first ones", desk.lots(0, 0, 0), 1);
        inside("the last ones", desk.lots(9, 11, 15), 1);
        outside("shuffle 10", desk.lots(10, 0, 0), BAD);
        outside("pack 12", desk.lots(0, 12, 0), BAD);
        for (int wrong : FAR_AWAY) {
            outside("shuffle " + wrong, desk.lots(wrong, 0, 0), BAD);
            outside("pack " + wrong, desk.lots(0, wrong, 0), BAD);
        }
    }

    private void lotsState() {
        oneOfEach();
        for (int s = 0; s < 3; s++) {
            outside("of kind " + s, desk.lots(s, 0, 0), STATE);
        }
        inside("riffle", desk.lots(3, 0, 0), 1);
        inside("top", desk.lots(4, 0, 0), 1);
        inside("all as it was", orderOf(0), code("0123"));
    }

    private void lotsOfRiffle() {
        for (int n = 1; n <= 10; n++) {
            fresh(n);
            desk.pack();
            for (int heaps = 1; heaps <= 10; heaps++) {
                int s = desk.riffle(heaps);
                long end = raised(heaps, n);
                inside("lots 0 of " + heaps, desk.lots(s, 0, 0), 1);
                inside("the last lots of " + heaps, desk.lots(s, 0, end - 1), 1);
                outside("one more", desk.lots(s, 0, end), BAD);
                outside("lots -1", desk.lots(s, 0, -1), BAD);
            }
            inside("one heap alone each time", orderOf(0), code(firstOrder(n)));
        }
        outside("highest", desk.lots(0, 0, Long.MAX_VALUE), BAD);
        outside("lowest", desk.lots(0, 0, Long.MIN_VALUE), BAD);
        outside("its low 32 bits are 0", desk.lots(1, 0, 1L << 40), BAD);
    }

    private void lotsOfTop() {
        for (int n = 1; n <= 10; n++) {
            fresh(n);
            desk.pack();
            desk.top();
            inside("lot 0", desk.lots(0, 0, 0), 1);
            inside("it stays", orderOf(0), code(firstOrder(n)));
            inside("the last lot", desk.lots(0, 0, n - 1), 1);
            inside("it comes to the end", orderOf(0), code(firstOrder(n).substring(1) + "0"));
            outside("one more", desk.lots(0, 0, n), BAD);
            outside("lot -1", desk.lots(0, 0, -1), BAD);
            outside("its low 32 bits are 0", desk.lots(0, 0, 1L << 32), BAD);
        }
        outside("highest", desk.lots(0, 0, Long.MAX_VALUE), BAD);
        outside("lowest", desk.lots(0, 0, Long.MIN_VALUE), BAD);
    }

    private void lotsInOrder() {
        oneOfEach();
        inside("all well", desk.lots(3, 0, 80), 1);
        outside("no SHUFFLE ahead of lots", desk.lots(5, 0, -1), BAD);
        outside("no PACK ahead of STATE", desk.lots(2, 1, 0), BAD);
        outside("no PACK ahead of STATE and lots", desk.lots(2, -1, -1), BAD);
        outside("STATE ahead of lots below 0", desk.lots(2, 0, -1), STATE);
        outside("STATE ahead of lots too high", desk.lots(1, 0, Long.MAX_VALUE), STATE);
    }

    private void lotsLaid() {
        fresh(3);
        desk.pack();
        desk.riffle(10);
        inside("lots 2, 1, 0", desk.lots(0, 0, 12), 1);
        inside("each heap has one", orderOf(0), code("210"));
        inside("lots 9, 0, 9", desk.lots(0, 0, 909), 1);
        // heap 0 is CARD 2, heap 9 is CARDS 1, 0
        inside("heaps between are empty", orderOf(0), code("120"));
        outside("ten to the three", desk.lots(0, 0, 1000), BAD);
    }

    // ---- 20

    private static int step(int seed) {
        return seed * 1103515245 + 12345;
    }

    private static int valueOf(int seed) {
        return seed >>> 16 & 15;
    }

    /** A seed whose next value is the wanted one. */
    private static int seedAhead(int value) {
        int seed = 0;
        while (valueOf(step(seed)) != value) {
            seed++;
        }
        return seed;
    }

    private void drawNumbers() {
        outside("nothing there", desk.draw(0, 0), NO);
        desk.riffle(2);
        outside("no packs", desk.draw(0, 0), NO);
        fillPacks();
        fillShuffles();
        inside("the last ones", desk.draw(9, 11) >= 0 ? 1 : 0, 1);
        int seed = desk.seed(3);
        desk.seed(seed);
        outside("shuffle 10", desk.draw(10, 0), NO);
        outside("pack 12", desk.draw(0, 12), NO);
        for (int wrong : FAR_AWAY) {
            outside("shuffle " + wrong, desk.draw(wrong, 0), NO);
            outside("pack " + wrong, desk.draw(0, wrong), NO);
        }
        inside("nothing is drawn then", desk.seed(0), seed);
    }

    private void drawMove() {
        oneOfEach();
        for (int s = 0; s < 3; s++) {
            outside("of kind " + s, desk.draw(s, 0), NO);
        }
        inside("nothing is drawn then", desk.seed(0), 0);
        inside("nothing is laid then", orderOf(0), code("0123"));
        inside("top", desk.draw(4, 0), 0);
        inside("one step", desk.seed(0), 12345);
    }

    /** The lots that are told bring another PACK to the same order. */
    private void drawDone() {
        for (int n = 1; n <= 10; n++) {
            fresh(n);
            desk.ranked(factorial(n) / 2);
            desk.ranked(factorial(n) / 2);
            desk.riffle(1);
            desk.riffle(10);
            desk.top();
            desk.seed(n * 1000);
            for (int s = 0; s < 3; s++) {
                inside("the same lots", desk.lots(s, 1, desk.draw(s, 0)), 1);
                inside("the same order", orderOf(0), orderOf(1));
            }
            long was = orderOf(1);
            outside("no such pack", desk.draw(1, 2), NO);
            inside("the other pack stays", orderOf(1), was);
        }
        fresh(3);
        desk.pack();
        desk.top();
        desk.seed(seedAhead(2));
        inside("lot 2", desk.draw(0, 0), 2);
        inside("the top card at the end", orderOf(0), code("120"));
    }

    private void drawTill() {
        for (int n = 1; n <= 10; n++) {
            fresh(n);
            desk.pack();
            desk.top();
            int seed = seedAhead(n - 1);
            desk.seed(seed);
            inside("the highest lot of " + n, desk.draw(0, 0), n - 1);
            seed = seedAhead(n);
            desk.seed(seed);
            seed = step(step(seed));
            while (valueOf(seed) >= n) {
                seed = step(seed);
            }
            outside("one above it is passed over", desk.draw(0, 0), valueOf(seed));
            inside("the seed behind it", desk.seed(0), seed);
        }
    }

    private void drawTimes() {
        for (int n = 1; n <= 10; n++) {
            fresh(n);
            desk.pack();
            desk.riffle(10);
            desk.top();
            desk.seed(n);
            int seed = n;
            long lots = 0;
            for (int i = 0; i < n; i++) {
                seed = step(seed);
                while (valueOf(seed) >= 10) {
                    seed = step(seed);
                }
                lots += raised(10, i) * valueOf(seed);
            }
            inside("riffle", desk.draw(0, 0), lots);
            inside("n lots and no more", desk.seed(seedAhead(0)), seed);
            inside("top", desk.draw(1, 0), 0);
            outside("one lot and no more", desk.seed(0), step(seedAhead(0)));
        }
    }

    private void drawWraps() {
        desk.pack();
        desk.riffle(2);
        // 12345, then 12345 * 1103515245 + 12345 cut to 32 bits, and so on
        inside("from 0", desk.draw(0, 0), drawnFrom(0));
        for (int seed : new int[] {LOWEST, HIGHEST, -1, 1 << 30}) {
            desk.seed(seed);
            outside("from " + seed, desk.draw(0, 0), drawnFrom(seed));
        }
    }

    /** The same with a long that is cut to 32 bits by hand. */
    private static long drawnFrom(int start) {
        long seed = start & 0xffffffffL;
        long lots = 0;
        for (int i = 0; i < 4; i++) {
            do {
                seed = (seed * 1103515245L + 12345L) % (1L << 32);
                seed = seed < 0 ? seed + (1L << 32) : seed;
            } while (seed / 65536 % 16 >= 2);
            lots += (seed / 65536 % 16) << i;
        }
        return lots;
    }

    // ---- 21

    private void seedAny() {
        inside("0 at first", desk.seed(1), 0);
        outside("lowest", desk.seed(LOWEST), 1);
        outside("highest", desk.seed(HIGHEST), LOWEST);
        inside("-1", desk.seed(-1), HIGHEST);
        inside("0", desk.seed(0), -1);
        inside("0 again", desk.seed(0), 0);
    }
}
