import java.util.ArrayList;
import java.util.List;
import java.util.function.ToLongFunction;

/**
 * Refusals change nothing: of two desks that have seen the same calls one is asked a call that is
 * refused, and all that can be seen of both is compared then. (Twins, because looking at all of one
 * desk twice would take more than the 512 calls that are promised.)
 */
public final class RefusedTest {
    private static final int BAD = -2, STATE = -3, FULL = -4;
    private static final int NOTHING = -11, OUTSIDE = -12, OTHER = -13, BELOW = -14;
    private static final long NO = -4611686018427387904L;
    private static final Check CHECK = new Check("RefusedTest");

    /** How a desk is before the refused call. */
    private record Setting(String name, int cards, boolean full) {
    }

    private RefusedTest() {
    }

    public static void main(String[] args) {
        for (Setting roomy : List.of(new Setting("even", 6, false), new Setting("odd", 7, false))) {
            always(roomy);
            packsAndShuffles(roomy);
        }
        for (Setting full : List.of(new Setting("even and full", 8, true), new Setting("odd and full", 5, true))) {
            always(full);
            noRoom(full);
        }
        oddDesk(new Setting("odd", 7, false));
        oddDesk(new Setting("odd and full", 5, true));
        CHECK.end();
    }

    /** SHUFFLES: 0 a MOVE, 1 a DEAL, 2 a RIFFLE of 3, 3 a TOP; PACKS 0 and 1; TRAY 3 is missing. */
    private static ShuffleDesk made(Setting setting) {
        ShuffleDesk desk = new ShuffleDesk();
        desk.begin(setting.cards);
        desk.ranked(77);
        desk.ranked(99);
        desk.move(0);
        desk.deal(3);
        desk.riffle(3);
        desk.top();
        for (int i = 2; setting.full && i < 12; i++) {
            desk.ranked(i);
        }
        for (int i = 4; setting.full && i < 10; i++) {
            desk.deal(i % 5 + 1);
        }
        for (int tray = 0; tray < 3; tray++) {
            desk.tray(tray, tray, 10);
            for (int i = 0; i < 10; i++) {
                desk.cell(tray, i, (i * 3 + tray) % 10);
            }
        }
        desk.seed(4711);
        desk.act(3, 2, 5);
        return desk;
    }

    /** All that can be seen, the TRAYS last: they are read as PACKS of ten CARDS. */
    private static List<Long> seen(ShuffleDesk desk) {
        List<Long> all = new ArrayList<>();
        for (int what = 0; what < 4; what++) {
            all.add((long) desk.count(what));
        }
        for (int pack = 0; pack < 12; pack++) {
            all.add((long) desk.packTold(pack, 0));
        }
        for (int s = 0; s < 10; s++) {
            all.add((long) desk.shuffleTold(s, 0));
            all.add((long) desk.shuffleTold(s, 1));
            for (int i = 0; i < desk.count(0); i++) {
                all.add((long) desk.moves(s, i));
            }
        }
        for (int i = 0; i < 21; i++) {
            all.add((long) desk.trace(i));
        }
        all.add((long) desk.seed(0));
        desk.begin(10);
        for (int tray = 0; tray < 4; tray++) {
            all.add((long) desk.told(tray, tray % 3, 0));
            all.add((long) desk.cell(tray, 10, 1));
            for (int i = 0; i < 10; i++) {
                all.add((long) desk.card(tray, i));
            }
        }
        return all;
    }

    private static void refused(Setting setting, String call, long due, ToLongFunction<ShuffleDesk> asked) {
        ShuffleDesk one = made(setting);
        ShuffleDesk twin = made(setting);
        CHECK.due(setting.name + ": " + call, asked.applyAsLong(one), due);
        List<Long> after = seen(one);
        List<Long> before = seen(twin);
        for (int i = 0; i < before.size(); i++) {
            CHECK.due(setting.name + ": sight " + i + " behind " + call, after.get(i), before.get(i));
        }
    }

    /** Refused whatever room there is. */
    private static void always(Setting s) {
        int n = s.cards;
        refused(s, "begin 0", BAD, d -> d.begin(0));
        refused(s, "begin 11", BAD, d -> d.begin(11));
        refused(s, "ranked -1", BAD, d -> d.ranked(-1));
        refused(s, "told tray", BAD, d -> d.told(4, 0, 0));
        refused(s, "told sort", BAD, d -> d.told(0, 3, 0));
        refused(s, "told another sort", OTHER, d -> d.told(0, 1, 0));
        refused(s, "told missing", NOTHING, d -> d.told(3, 1, 0));
        refused(s, "told outside", OUTSIDE, d -> d.told(0, 0, 11 - n));
        refused(s, "told no card", STATE, d -> d.told(0, 0, 0));
        refused(s, "card", BAD, d -> d.card(0, n));
        refused(s, "packTold", BAD, d -> d.packTold(0, 3));
        refused(s, "move", BAD, d -> d.move(12));
        refused(s, "perfect", BAD, d -> d.perfect(2));
        refused(s, "deal 0", BAD, d -> d.deal(0));
        refused(s, "deal n + 1", BAD, d -> d.deal(n + 1));
        refused(s, "riffle", BAD, d -> d.riffle(11));
        refused(s, "behind", BAD, d -> d.behind(0, 10));
        refused(s, "behind no move", STATE, d -> d.behind(0, 2));
        refused(s, "back", BAD, d -> d.back(10));
        refused(s, "back no move", STATE, d -> d.back(3));
        refused(s, "moves", BAD, d -> d.moves(0, n));
        refused(s, "shuffleTold", BAD, d -> d.shuffleTold(0, 4));
        refused(s, "power", BAD, d -> d.power(0, -1, 0));
        lotsAndChances(s);
        trays(s);
        refused(s, "leads", BAD, d -> d.leads(0, n));
        refused(s, "lead", BAD, d -> d.lead(n, 0, 0));
        refused(s, "count", BAD, d -> d.count(4));
        refused(s, "taken kind", BAD, d -> d.taken(0, 5));
        refused(s, "taken nothing", NOTHING, d -> d.taken(10, 0));
        refused(s, "taken another kind", OTHER, d -> d.taken(0, 1));
    }

    private static void lotsAndChances(Setting s) {
        int n = s.cards;
        refused(s, "does no pack", BAD, d -> d.does(0, 12));
        refused(s, "does no move", STATE, d -> d.does(2, 0));
        refused(s, "lots no pack", BAD, d -> d.lots(2, 12, 1));
        refused(s, "lots of a move", STATE, d -> d.lots(0, 0, 1));
        refused(s, "lots too high", BAD, d -> d.lots(2, 0, Math.round(Math.pow(3, n))));
        refused(s, "lots below 0", BAD, d -> d.lots(2, 0, -1));
        refused(s, "lot too high", BAD, d -> d.lots(3, 0, n));
        refused(s, "draw no shuffle", NO, d -> d.draw(10, 0));
        refused(s, "draw no pack", NO, d -> d.draw(2, 12));
        refused(s, "draw of a move", NO, d -> d.draw(0, 0));
        refused(s, "chance of a move", NO, d -> d.chance(0, 1, 0, 0));
        refused(s, "chance k", NO, d -> d.chance(2, 3, 0, 0));
        refused(s, "place of a move", NO, d -> d.place(0, 0, 0, 0));
        refused(s, "far of a move", NO, d -> d.far(0, 1, 0));
        refused(s, "far k", NO, d -> d.far(2, 3, 0));
        refused(s, "unlike of a top", NO, d -> d.unlike(3, 1, 0));
        refused(s, "runs 0", NO, d -> d.runs(0));
        refused(s, "runs n + 1", NO, d -> d.runs(n + 1));
    }

    private static void trays(Setting s) {
        refused(s, "tray", BAD, d -> d.tray(4, 0, 1));
        refused(s, "tray sort", BAD, d -> d.tray(0, 3, 1));
        refused(s, "tray sort below -1", BAD, d -> d.tray(0, -2, 1));
        refused(s, "tray of 41", BAD, d -> d.tray(0, 0, 41));
        refused(s, "tray below 0", BELOW, d -> d.tray(0, 0, -1));
        refused(s, "tray below 0, of another sort", BELOW, d -> d.tray(0, 2, -1));
        refused(s, "a missing tray below 0", BELOW, d -> d.tray(3, 0, -1));
        refused(s, "cell tray", BAD, d -> d.cell(4, 0, 1));
        refused(s, "cell missing", NOTHING, d -> d.cell(3, 0, 1));
        refused(s, "cell below", OUTSIDE, d -> d.cell(0, -1, 1));
        refused(s, "cell beyond", OUTSIDE, d -> d.cell(0, 10, 1));
        refused(s, "copy tray", BAD, d -> d.copy(0, 0, 4, 0, 1));
        refused(s, "copy from missing", NOTHING, d -> d.copy(3, 0, 0, 0, 1));
        refused(s, "copy to missing", NOTHING, d -> d.copy(0, 0, 3, 0, 1));
        refused(s, "copy another sort", OTHER, d -> d.copy(0, 0, 1, 0, 1));
        refused(s, "copy beyond the source", OUTSIDE, d -> d.copy(0, 8, 0, 0, 3));
        refused(s, "copy beyond the target", OUTSIDE, d -> d.copy(0, 0, 0, 8, 3));
        refused(s, "copy below", OUTSIDE, d -> d.copy(0, 0, 0, 1, -1));
    }

    /** Numbers that are the next to come. */
    private static void packsAndShuffles(Setting s) {
        refused(s, "card of the next pack", BAD, d -> d.card(2, 0));
        refused(s, "packTold of the next pack", BAD, d -> d.packTold(2, 0));
        refused(s, "move of the next pack", BAD, d -> d.move(2));
        refused(s, "does with the next pack", BAD, d -> d.does(0, 2));
        refused(s, "does the next shuffle", BAD, d -> d.does(4, 0));
        refused(s, "lots of the next shuffle", BAD, d -> d.lots(4, 0, 0));
        refused(s, "draw of the next shuffle", NO, d -> d.draw(4, 0));
        refused(s, "behind the next shuffle", BAD, d -> d.behind(4, 0));
        refused(s, "back of the next shuffle", BAD, d -> d.back(4));
        refused(s, "taken of the next shuffle", NOTHING, d -> d.taken(4, 0));
    }

    private static void noRoom(Setting s) {
        refused(s, "pack", FULL, d -> d.pack());
        refused(s, "ranked", FULL, d -> d.ranked(1));
        refused(s, "told", FULL, RefusedTest::toldOfOrder);
        refused(s, "move", FULL, d -> d.move(0));
        refused(s, "deal", FULL, d -> d.deal(1));
        refused(s, "riffle", FULL, d -> d.riffle(1));
        refused(s, "top", FULL, d -> d.top());
        refused(s, "behind", FULL, d -> d.behind(0, 1));
        refused(s, "back", FULL, d -> d.back(0));
        if (s.cards % 2 == 0) {
            refused(s, "perfect", FULL, d -> d.perfect(0));
        }
    }

    /** TRAY 3 gets an order for the call and is missing again behind it. */
    private static long toldOfOrder(ShuffleDesk desk) {
        desk.tray(3, 2, desk.count(0));
        for (int i = 0; i < desk.count(0); i++) {
            desk.cell(3, i, i);
        }
        long answer = desk.told(3, 2, 0);
        desk.tray(3, -1, 0);
        return answer;
    }

    private static void oddDesk(Setting s) {
        refused(s, "perfect", STATE, d -> d.perfect(0));
        refused(s, "leads", STATE, d -> d.leads(0, 1));
        refused(s, "lead", STATE, d -> d.lead(0, 1, 0));
        refused(s, "group", STATE, d -> d.group());
    }
}
