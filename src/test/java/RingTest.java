import java.util.Random;

/** Promises 30 to 32: wish, rings, turn. */
public final class RingTest {
    private static final Due DUE = new Due("RingTest");

    public static void main(String[] args) {
        wishes();
        wishesOfThoseWhoLeave();
        twoCabs();
        leastBits();
        greatest();
        longRing();
        againstAllHeaps();
        placesInTurn();
        ticketsAfterTurn();
        DUE.close();
    }

    /** CABS stand at these RANKS, one after the other. */
    private static CabRanks standing(int... ranks) {
        CabRanks x = Due.city("rank a 10 9 9;rank b 30 9 9;rank c 50 9 9;fare 100 10 1 0;short 20 200;let c 0 0 0;");
        for (int cab = 0; cab < ranks.length; cab++) {
            x.cab(0, x.rank(ranks[cab], 0));
            x.drive(cab, ranks[cab]);
        }
        return x;
    }

    private static void row(CabRanks x, int rank, int... want) {
        for (int k = 0; k < want.length; k++) {
            DUE.is("row(" + rank + ", " + k + ")", x.row(rank, k), want[k]);
            DUE.is("RANK of " + want[k], x.of(want[k], 2), rank);
            DUE.is("place of " + want[k], x.of(want[k], 1), x.rank(rank, 0));
            DUE.is("in the row " + want[k], x.of(want[k], 3), k);
        }
        DUE.is("how many", x.rank(rank, 3), want.length);
    }

    private static void wishes() {
        CabRanks x = standing(0, 1);
        x.cab(0, 10);
        DUE.is("none", x.of(0, 9), -1);
        DUE.is("no cab", x.wish(3, 0), false);
        DUE.is("no cab -1", x.wish(-1, 0), false);
        DUE.is("EMPTY", x.wish(2, 0), false);
        DUE.is("EMPTY, none", x.wish(2, -1), false);
        DUE.is("it STANDS there", x.wish(0, 0), false);
        DUE.is("no rank", x.wish(0, 3), false);
        DUE.is("no rank -2", x.wish(0, -2), false);
        DUE.is("a WISH", x.wish(0, 1), true);
        DUE.is("told", x.of(0, 9), 1);
        DUE.is("refused changes nothing", x.wish(0, 0), false);
        DUE.is("still", x.of(0, 9), 1);
        DUE.is("another one", x.wish(0, 2), true);
        DUE.is("told", x.of(0, 9), 2);
        DUE.is("none", x.wish(0, -1), true);
        DUE.is("told", x.of(0, 9), -1);
    }

    private static void wishesOfThoseWhoLeave() {
        CabRanks x = standing(0, 0, 1, 1);
        x.wish(0, 1);
        x.wish(2, 0);
        x.wish(3, 0);
        DUE.is("a ring", x.rings(), 5);
        x.take(0, 1, 10);
        DUE.is("BUSY: no WISH", x.of(0, 9), -1);
        DUE.is("no ring", x.rings(), 0);
        x.go(1);
        x.drive(0, 0);
        DUE.is("it STANDS again", x.of(0, 0), 2);
        DUE.is("without a WISH", x.of(0, 9), -1);
        x.wish(1, 1);
        x.call(2, 1, 0);
        DUE.is("CALLED: no WISH", x.of(2, 9), -1);
        DUE.is("with the other one", x.rings(), 2 | 8);
        x.refuse(1);
        x.change(1, 0);
        DUE.is("in the row, it stays", x.rings(), 2 | 8);
    }

    private static void twoCabs() {
        CabRanks x = standing(0, 1);
        DUE.is("none", x.rings(), 0);
        DUE.is("none is done", x.turn(), 0);
        x.wish(0, 1);
        DUE.is("half a ring", x.rings(), 0);
        DUE.is("none is done", x.turn(), 0);
        DUE.is("the WISH stays", x.of(0, 9), 1);
        x.wish(1, 0);
        DUE.is("a ring", x.rings(), 3);
        DUE.is("asked, nothing is done", x.of(0, 2), 0);
        DUE.is("turn", x.turn(), 2);
        row(x, 0, 1);
        row(x, 1, 0);
        DUE.is("the WISH is gone", x.of(0, 9), -1);
        DUE.is("the WISH is gone", x.of(1, 9), -1);
        DUE.is("no ring more", x.rings(), 0);
        DUE.is("no PASS", x.pass(-1, 0), 0);
    }

    private static void leastBits() {
        CabRanks x = standing(0, 0, 1, 1);
        x.wish(1, 1);
        x.wish(0, 1);
        x.wish(3, 0);
        DUE.is("0 ahead of 1", x.rings(), 1 | 8);
        x.wish(2, 0);
        DUE.is("all", x.rings(), 15);
        x.wish(1, -1);
        DUE.is("2 ahead of 3", x.rings(), 1 | 4);
        DUE.is("turn", x.turn(), 2);
        DUE.is("3 wishes still", x.of(3, 9), 0);
        // a ring of two of high numbers gives way to one of three, and to one with lower bits
        CabRanks y = standing(2, 0, 0, 1, 1, 0);
        y.wish(0, 0);
        y.wish(1, 1);
        y.wish(3, 2);
        y.wish(4, 0);
        DUE.is("three", y.rings(), 1 | 2 | 8);
        y.wish(5, 1);
        DUE.is("five", y.rings(), 1 | 2 | 8 | 16 | 32);
    }

    private static void greatest() {
        // the ring of 0 and 1 shares RANKS with a greater one that needs neither
        CabRanks x = standing(0, 1, 0, 1, 2);
        x.wish(0, 1);
        x.wish(1, 0);
        x.wish(3, 2);
        x.wish(4, 0);
        DUE.is("0 goes with 3 and 4", x.rings(), 1 | 8 | 16);
        x.wish(2, 1);
        DUE.is("all", x.rings(), 31);
        DUE.is("turn", x.turn(), 5);
        row(x, 0, 1, 4);
        row(x, 1, 0, 2);
        row(x, 2, 3);
    }

    private static void longRing() {
        CabRanks x = Due.city("rank a 1 9 9;rank b 2 9 9;rank c 3 9 9;rank d 4 9 9;rank e 5 9 9;rank f 6 9 9;fare 0 0 1 0;");
        int[] from = {4, 3, 2, 1, 0, 5};
        for (int cab = 0; cab < 6; cab++) {
            x.cab(0, 1 + from[cab]);
            x.drive(cab, from[cab]);
            DUE.is("no ring yet", x.rings(), 0);
            DUE.is("wish", x.wish(cab, (from[cab] + 1) % 6), true);
        }
        DUE.is("one ring over all RANKS", x.rings(), 63);
        DUE.is("turn", x.turn(), 6);
        for (int cab = 0; cab < 6; cab++) {
            row(x, (from[cab] + 1) % 6, cab);
        }
    }

    /** Sixteen CABS with random WISHES, over two to six RANKS, against every heap of them. */
    private static void againstAllHeaps() {
        Random random = new Random(16);
        for (int run = 0; run < 200; run++) {
            CabRanks x = Due.city("rank a 1 9 9;rank b 2 9 9;rank c 3 9 9;rank d 4 9 9;rank e 5 9 9;rank f 6 9 9;fare 0 0 1 0;");
            int ranks = 2 + run % 5;
            int[] balances = new int[1 << 16];
            int best = 0;
            for (int cab = 0; cab < 16; cab++) {
                int from = random.nextInt(ranks);
                int to = (from + 1 + random.nextInt(ranks - 1)) % ranks;
                x.cab(0, 1 + from);
                x.drive(cab, from);
                boolean wishes = random.nextInt(8) > 0 && x.wish(cab, to);
                // a digit of 32 for each RANK: 0 in all if as many come as leave; 1 << 30 and its like are never 0
                int step = wishes ? (1 << 5 * to) - (1 << 5 * from) : 1 << 30;
                for (int heap = 1 << cab; heap < 2 << cab; heap++) {
                    balances[heap] = balances[heap - (1 << cab)] >= 1 << 29 ? 1 << 30 : balances[heap - (1 << cab)] + step;
                }
            }
            for (int heap = 1; heap < 1 << 16; heap++) {
                if (balances[heap] == 0 && Integer.bitCount(heap) > Integer.bitCount(best)) {
                    best = heap;
                }
            }
            DUE.is("the greatest of random wishes " + run, x.rings(), best);
            DUE.is("done " + run, x.turn(), Integer.bitCount(best));
        }
    }

    private static void placesInTurn() {
        CabRanks x = standing(1, 0, 0, 0, 1, 1, 0);
        x.change(3, 1);
        row(x, 0, 3, 2, 1, 6);
        x.change(0, 5);
        row(x, 1, 5, 4, 0);
        x.go(2);
        x.wish(3, 1);
        x.wish(1, 1);
        x.wish(0, 0);
        x.wish(5, 0);
        DUE.is("four", x.turn(), 4);
        row(x, 0, 0, 2, 5, 6);
        row(x, 1, 1, 4, 3);
        DUE.is("WAITED stays", x.of(0, 8), 2);
        DUE.is("the places changed alone are told", x.pass(-1, 0), 2);
        // plates aside
        CabRanks y = standing(0, 2);
        y.go(60);
        y.wish(0, 2);
        y.wish(1, 0);
        DUE.is("turn", y.turn(), 2);
        row(y, 2, 0);
    }

    private static void ticketsAfterTurn() {
        CabRanks x = standing(0, 0, 1, 1);
        x.take(0, 2, 10);
        x.take(0, 2, 10);
        x.take(1, 2, 30);
        x.go(2);
        x.drive(0, 0);
        x.drive(1, 0);
        row(x, 0, 0, 1);
        x.wish(1, 1);
        x.wish(3, 0);
        DUE.is("turn", x.turn(), 2);
        row(x, 0, 0, 3);
        row(x, 1, 1);
        // 1 came into its first row by TICKET, but into this one by a ring
        x.drive(2, 1);
        row(x, 1, 2, 1);
        // 3 has the place of one who came by TICKET, but didn't come so itself
        x.take(0, 2, 10);
        x.go(2);
        x.drive(0, 0);
        row(x, 0, 0, 3);
    }
}
