import java.util.ArrayList;
import java.util.List;

/**
 * The frame of the edge tests: each sentence of the document that names a boundary gets a test of its
 * own, with the call just inside the boundary, the call just outside it, and the answer due for each.
 */
abstract class Edges {
    static final int NONE = -1, BAD = -2, STATE = -3, FULL = -4;
    static final int NOTHING = -11, OUTSIDE = -12, OTHER = -13, BELOW = -14;
    static final long NO = -4611686018427387904L;
    static final int LOWEST = Integer.MIN_VALUE, HIGHEST = Integer.MAX_VALUE;
    static final int MOST_PACKS = 12, MOST_SHUFFLES = 10;

    /** What each promise names besides its plain answer, by the promise's number. */
    private static final long[][] NAMED = {
        {}, {}, {BAD}, {FULL}, {BAD, FULL}, {BAD, OTHER, NOTHING, OUTSIDE, STATE, FULL}, {BAD}, {BAD},
        {BAD, FULL}, {BAD, STATE, FULL}, {BAD, FULL}, {BAD, FULL}, {FULL}, {BAD, STATE, FULL},
        {BAD, STATE, FULL}, {NONE, BAD}, {NONE, BAD}, {NONE, BAD}, {BAD, STATE}, {BAD, STATE}, {NO}, {},
        {NO}, {NO}, {NO}, {NO}, {NO}, {BAD, STATE}, {NONE, BAD, STATE}, {STATE}, {0}, {NONE}, {BAD},
        {BAD, BELOW}, {BAD, NOTHING, OUTSIDE}, {BAD, NOTHING, OTHER, OUTSIDE}, {BAD, NOTHING, OTHER},
    };

    private final Check check;
    private final int first;
    private final int last;
    private final List<List<Long>> outsideAnswers = new ArrayList<>();
    private final int[] sentences = new int[NAMED.length];
    private String where = "";
    private int promise = 0;
    private int insides = 0;
    private int outsides = 0;

    /** A new one for each sentence. */
    ShuffleDesk desk;

    Edges(String name, int first, int last) {
        check = new Check(name);
        this.first = first;
        this.last = last;
        for (int i = 0; i < NAMED.length; i++) {
            outsideAnswers.add(new ArrayList<>());
        }
    }

    final void sentence(int number, String words, Runnable test) {
        promise = number;
        where = "promise " + number + ", '" + words + "': ";
        insides = 0;
        outsides = 0;
        desk = new ShuffleDesk();
        test.run();
        sentences[number]++;
        if (insides == 0 || outsides == 0) {
            check.fault(where + insides + " calls inside, " + outsides + " outside");
        }
    }

    final void inside(String call, long got, long want) {
        insides++;
        check.due(where + call, got, want);
    }

    final void outside(String call, long got, long want) {
        outsides++;
        outsideAnswers.get(promise).add(want);
        check.due(where + call, got, want);
    }

    /** No promise is left out, and none of the answers that a promise names. */
    final void end() {
        for (int number = first; number <= last; number++) {
            if (sentences[number] == 0) {
                check.fault("promise " + number + " has no sentence tested");
            }
            for (long named : NAMED[number]) {
                if (!outsideAnswers.get(number).contains(named)) {
                    check.fault("promise " + number + ": no call is due to answer " + named);
                }
            }
        }
        check.end();
    }

    // ---- desks in the state that a sentence asks for

    final void fresh(int cards) {
        desk = new ShuffleDesk();
        check.due(where + "begin " + cards, desk.begin(cards), 1);
    }

    final void fillPacks() {
        for (int i = 0; i < MOST_PACKS && desk.count(1) < MOST_PACKS; i++) {
            desk.pack();
        }
    }

    final void fillShuffles() {
        for (int i = 0; i < MOST_SHUFFLES && desk.count(2) < MOST_SHUFFLES; i++) {
            desk.riffle(2);
        }
    }

    final void trayOf(int tray, int sort, int... items) {
        desk.tray(tray, sort, items.length);
        for (int i = 0; i < items.length; i++) {
            desk.cell(tray, i, items[i]);
        }
    }

    /** A PACK in a told order, through TRAY 3. */
    final int packOf(String order) {
        int[] items = new int[order.length()];
        for (int i = 0; i < items.length; i++) {
            items[i] = order.charAt(i) - '0';
        }
        trayOf(3, 2, items);
        return desk.told(3, 2, 0);
    }

    // ---- whole orders as one number: a 1 and behind it the CARDS, each of which is one digit

    static long code(String order) {
        return Long.parseLong("1" + order);
    }

    final long orderOf(int pack) {
        long code = 1;
        for (int i = 0; i < desk.count(0); i++) {
            code = code * 10 + desk.card(pack, i);
        }
        return code;
    }

    final long moveOf(int shuffle) {
        long code = 1;
        for (int i = 0; i < desk.count(0); i++) {
            code = code * 10 + desk.moves(shuffle, i);
        }
        return code;
    }

    static String firstOrder(int cards) {
        return "0123456789".substring(0, cards);
    }

    static String lastOrder(int cards) {
        return new StringBuilder(firstOrder(cards)).reverse().toString();
    }

    static int factorial(int n) {
        return n == 0 ? 1 : n * factorial(n - 1);
    }

    static long raised(long base, int times) {
        return times == 0 ? 1 : base * raised(base, times - 1);
    }

    static long divisor(long one, long other) {
        return other == 0 ? one : divisor(other, one % other);
    }
}
