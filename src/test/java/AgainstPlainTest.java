import java.util.ArrayList;
import java.util.List;
import java.util.Random;

/** Runs of calls, drawn from fixed seeds, on the program and on the plain desk: same answers are due. */
public final class AgainstPlainTest {
    private static final int RUNS = 4000, TOLD_BACK = 25;

    /** Nothing is promised of a desk behind its 512th call; one choice makes up to 30 calls. */
    private static final int CALLS = 512 - 30;

    private final Check check = new Check("AgainstPlainTest");
    private Random random;
    private ShuffleDesk desk;
    private PlainDesk plain;
    private List<String> calls;

    public static void main(String[] args) {
        AgainstPlainTest test = new AgainstPlainTest();
        for (int run = 0; run < RUNS && !test.check.hasFaults(); run++) {
            test.run(run);
        }
        test.check.end();
    }

    private void run(int number) {
        random = new Random(number);
        desk = new ShuffleDesk();
        plain = new PlainDesk();
        calls = new ArrayList<>();
        while (calls.size() < CALLS && !check.hasFaults()) {
            int choice = random.nextInt(60);
            try {
                call(choice);
            } catch (RuntimeException thrown) {
                check.fault("choice " + choice + " threw " + thrown);
            }
            // the whole PACK is looked at, so that a call that changes too much is seen
            int pack = random.nextInt(12);
            same("packTold " + pack, desk.packTold(pack, 0), plain.packTold(pack, 0));
        }
        if (check.hasFaults()) {
            int from = Math.max(0, calls.size() - TOLD_BACK);
            calls.subList(from, calls.size()).forEach(System.out::println);
        }
    }

    private void same(String call, long got, long want) {
        calls.add(call + " = " + got);
        check.due(call, got, want);
    }

    /** Mostly from low - 1 to high + 1, now and then far outside. */
    private int near(int low, int high) {
        switch (random.nextInt(60)) {
            case 0:
                return Integer.MIN_VALUE;
            case 1:
                return Integer.MAX_VALUE;
            case 2:
                return random.nextInt();
            case 3:
                return low - 1;
            case 4:
                return high + 1;
            default:
                return low + random.nextInt(high - low + 1);
        }
    }

    // ---- numbers to ask with; the plain desk tells what there is, as its calls are not counted

    private int cards() {
        return plain.count(0);
    }

    private int place() {
        return near(0, cards() - 1);
    }

    private int packNumber() {
        return near(0, Math.max(0, plain.count(1) - 1));
    }

    private int shuffleNumber() {
        return near(0, Math.max(0, plain.count(2) - 1));
    }

    private int part() {
        return near(0, 1);
    }

    private long anyLots(int shuffle) {
        long heaps = Math.max(1, plain.shuffleTold(shuffle, 1));
        long end = 1;
        for (int i = 0; i < (plain.shuffleTold(shuffle, 0) == 4 ? 1 : cards()); i++) {
            end *= heaps;
        }
        switch (random.nextInt(12)) {
            case 0:
                return -1;
            case 1:
                return end;
            case 2:
                return end - 1;
            case 3:
                return random.nextLong();
            default:
                return (random.nextLong() >>> 1) % end;
        }
    }

    private void call(int choice) {
        if (choice < 16) {
            callMakers(choice);
        } else if (choice < 32) {
            callShuffles(choice);
        } else if (choice < 48) {
            callChances(choice);
        } else {
            callTrays(choice);
        }
    }

    private void callMakers(int choice) {
        int a = shuffleNumber();
        int b = shuffleNumber();
        int n = near(1, 10);
        switch (choice) {
            case 0:
                if (random.nextInt(6) == 0) {
                    same("begin " + n, desk.begin(n), plain.begin(n));
                }
                return;
            case 1:
                same("pack", desk.pack(), plain.pack());
                return;
            case 2: {
                int end = 1;
                for (int i = 2; i <= cards(); i++) {
                    end *= i;
                }
                int rank = near(0, end - 1);
                same("ranked " + rank, desk.ranked(rank), plain.ranked(rank));
                return;
            }
            case 3: {
                int p = packNumber();
                same("move " + p, desk.move(p), plain.move(p));
                return;
            }
            case 4: {
                int way = part();
                same("perfect " + way, desk.perfect(way), plain.perfect(way));
                return;
            }
            case 5: {
                int heaps = near(1, cards());
                same("deal " + heaps, desk.deal(heaps), plain.deal(heaps));
                return;
            }
            case 6:
            case 7: {
                int heaps = choice == 6 ? near(1, 10) : near(1, 3);
                same("riffle " + heaps, desk.riffle(heaps), plain.riffle(heaps));
                return;
            }
            case 8:
                same("top", desk.top(), plain.top());
                return;
            case 9:
                same("behind " + a + " " + b, desk.behind(a, b), plain.behind(a, b));
                return;
            case 10:
                same("back " + a, desk.back(a), plain.back(a));
                return;
            case 11: {
                int s = random.nextInt();
                same("seed " + s, desk.seed(s), plain.seed(s));
                return;
            }
            case 12:
                same("group", desk.group(), plain.group());
                return;
            case 13: {
                int what = near(0, 3);
                same("count " + what, desk.count(what), plain.count(what));
                return;
            }
            default:
                callTold();
        }
    }

    /** A TRAY gets an order, or nearly one, and a PACK is told by it. */
    private void callTold() {
        int t = near(0, 3);
        int sort = near(0, 2);
        int start = random.nextInt(4) == 0 ? near(0, 40) : random.nextInt(3);
        if (random.nextInt(3) > 0) {
            int size = start + cards() + random.nextInt(3) - (random.nextInt(6) == 0 ? 2 : 0);
            same("tray", desk.tray(t, sort, size), plain.tray(t, sort, size));
            List<Integer> order = new ArrayList<>();
            for (int i = 0; i < cards(); i++) {
                order.add(random.nextInt(order.size() + 1), i);
            }
            for (int i = 0; i < cards(); i++) {
                int v = random.nextInt(40) == 0 ? place() : order.get(i);
                same("cell", desk.cell(t, start + i, v), plain.cell(t, start + i, v));
            }
        }
        int taken = random.nextInt(5) == 0 ? near(0, 2) : sort;
        int from = random.nextInt(5) == 0 ? near(0, 40) : start;
        same("told " + t + " " + taken + " " + from, desk.told(t, taken, from), plain.told(t, taken, from));
    }

    private void callShuffles(int choice) {
        int s = shuffleNumber();
        int p = packNumber();
        int i = place();
        int what = near(0, 3);
        switch (choice) {
            case 16:
                same("card " + p + " " + i, desk.card(p, i), plain.card(p, i));
                return;
            case 17:
                same("packTold " + p + " " + what, desk.packTold(p, what), plain.packTold(p, what));
                return;
            case 18:
                same("moves " + s + " " + i, desk.moves(s, i), plain.moves(s, i));
                return;
            case 19:
            case 20:
                same("shuffleTold " + s + " " + what, desk.shuffleTold(s, what), plain.shuffleTold(s, what));
                return;
            case 21: {
                long e = random.nextInt(4) == 0 ? random.nextLong() : near(0, 40);
                same("power " + s + " " + e + " " + i, desk.power(s, e, i), plain.power(s, e, i));
                return;
            }
            case 22:
            case 23:
                same("does " + s + " " + p, desk.does(s, p), plain.does(s, p));
                return;
            case 24:
            case 25: {
                long lots = anyLots(s);
                same("lots " + s + " " + p + " " + lots, desk.lots(s, p, lots), plain.lots(s, p, lots));
                return;
            }
            case 26:
            case 27:
                same("draw " + s + " " + p, desk.draw(s, p), plain.draw(s, p));
                return;
            case 28: {
                int k = near(0, 4);
                same("taken " + s + " " + k, desk.taken(s, k), plain.taken(s, k));
                return;
            }
            default:
                callActs(s);
        }
    }

    private void callActs(int s) {
        int act = near(0, 2);
        int x = random.nextInt(3) == 0 ? random.nextInt() : near(-9, 9);
        same("act " + s + " " + act + " " + x, desk.act(s, act, x), plain.act(s, act, x));
        same("count 3", desk.count(3), plain.count(3));
        for (int at = -1; at < 22; at += 1 + random.nextInt(3)) {
            same("trace " + at, desk.trace(at), plain.trace(at));
        }
        int at = near(0, 40);
        same("trace " + at, desk.trace(at), plain.trace(at));
    }

    private void callChances(int choice) {
        int s = shuffleNumber();
        int p = packNumber();
        int i = place();
        int j = place();
        int k = random.nextInt(4) == 0 ? near(0, 6) : near(0, 2);
        int what = part();
        switch (choice) {
            case 32:
            case 33:
            case 34:
            case 35:
                same("chance " + s + " " + k + " " + p, desk.chance(s, k, p, what), plain.chance(s, k, p, what));
                return;
            case 36:
            case 37:
                same("place " + s + " " + i + " " + j, desk.place(s, i, j, what), plain.place(s, i, j, what));
                return;
            case 38:
            case 39:
                same("far " + s + " " + k, desk.far(s, k, what), plain.far(s, k, what));
                return;
            case 40:
            case 41:
                same("unlike " + s + " " + k, desk.unlike(s, k, what), plain.unlike(s, k, what));
                return;
            case 42: {
                int r = near(1, cards());
                same("runs " + r, desk.runs(r), plain.runs(r));
                return;
            }
            case 43:
            case 44:
                same("leads " + i + " " + j, desk.leads(i, j), plain.leads(i, j));
                return;
            default: {
                int at = near(0, 4);
                same("lead " + i + " " + j + " " + at, desk.lead(i, j, at), plain.lead(i, j, at));
            }
        }
    }

    private void callTrays(int choice) {
        int t = near(0, 3);
        int other = near(0, 3);
        int i = near(0, 12);
        int j = near(0, 12);
        int v = random.nextInt(3) == 0 ? random.nextInt() : place();
        if (choice < 51) {
            int sort = near(-1, 2);
            int size = random.nextInt(4) == 0 ? near(0, 40) : near(0, 14);
            same("tray " + t + " " + sort + " " + size, desk.tray(t, sort, size), plain.tray(t, sort, size));
        } else if (choice < 55) {
            same("cell " + t + " " + i + " " + v, desk.cell(t, i, v), plain.cell(t, i, v));
        } else {
            int n = near(0, 10);
            same("copy " + t + " " + i + " " + other + " " + j + " " + n,
                    desk.copy(t, i, other, j, n), plain.copy(t, i, other, j, n));
        }
    }
}
