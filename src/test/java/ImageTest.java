/** Promises 33 to 36: earned, image, back, count. */
public final class ImageTest {
    private static final Due DUE = new Due("ImageTest");

    public static void main(String[] args) {
        earned();
        images();
        imageHoldsAll();
        imageLeavesTheRest();
        imageOfTicketRow();
        imageOfPasses();
        counts();
        DUE.close();
    }

    private static CabRanks standing(int many) {
        CabRanks x = Due.city("rank a 10 9 9;rank b 30 9 9;fare 100 10 1 0;short 10 100;let b 0 0 9;");
        for (int cab = 0; cab < many; cab++) {
            x.cab(0, 10);
            x.drive(cab, 0);
        }
        return x;
    }

    private static void earned() {
        CabRanks x = standing(0);
        DUE.is("without CABS", x.earned(0), -1);
        DUE.is("without CABS", x.earned(2), -1);
        x = standing(3);
        DUE.is("none", x.earned(0), 0);
        x.take(0, 10, 10);
        x.take(0, 20, 10);
        DUE.is("greatest", x.earned(0), 300);
        DUE.is("least", x.earned(1), 0);
        DUE.is("all", x.earned(2), 500);
        DUE.is("what 3", x.earned(3), -1);
        DUE.is("what -1", x.earned(-1), -1);
        x.call(2, 30, 10);
        DUE.is("greatest", x.earned(0), 400);
        DUE.is("least", x.earned(1), 200);
        DUE.is("all", x.earned(2), 900);
        x.go(10);
        x.drive(0, 0);
        x.take(0, 40, 10);
        DUE.is("PRICES of all it took", x.of(0, 7), 700);
        DUE.is("greatest", x.earned(0), 700);
        DUE.is("least", x.earned(1), 300);
    }

    private static void images() {
        CabRanks x = standing(1);
        DUE.is("none 0", x.back(0), false);
        DUE.is("none -1", x.back(-1), false);
        DUE.is("none 3", x.back(3), false);
        DUE.is("no 3", x.image(3), false);
        DUE.is("no -1", x.image(-1), false);
        for (int k = 0; k < 3; k++) {
            x.go(7);
            DUE.is("image " + k, x.image(k), true);
        }
        for (int k = 2; k >= 0; k--) {
            DUE.is("back " + k, x.back(k), true);
            DUE.is("MINUTE " + k, x.count(3), 7 * k + 7);
            DUE.is("WAITED " + k, x.of(0, 8), 7 * k + 7);
        }
        x.go(1);
        DUE.is("again back 0", x.back(0), true);
        DUE.is("MINUTE", x.count(3), 7);
        DUE.is("in place of it", x.image(1), true);
        x.go(1);
        DUE.is("back 1", x.back(1), true);
        DUE.is("MINUTE", x.count(3), 7);
    }

    private static void imageHoldsAll() {
        CabRanks x = standing(4);
        x.take(0, 5, 20);
        x.refuse(0);
        x.wish(2, 1);
        x.people(0, 4);
        x.people(1, 9);
        x.go(2);
        x.image(2);
        int[] before = seen(x);
        x.cab(3, 30);
        x.wish(2, -1);
        x.wish(3, 1);
        x.people(0, 0);
        x.people(1, 1);
        x.go(3);
        x.drive(0, 0);
        x.change(3, 1);
        x.refuse(0);
        x.go(100);
        x.take(0, 9, 9);
        x.drive(4, 1);
        x.call(1, 200, 1);
        x.back(2);
        int[] after = seen(x);
        for (int k = 0; k < before.length; k++) {
            DUE.is("the day's " + k + "th number", after[k], before[k]);
        }
        DUE.is("three CABS more can't be told from before", x.cab(1, 55), 4);
        DUE.is("a new CAB is new", x.of(4, 7) + x.of(4, 8) + x.of(4, 5) + x.of(4, 9), -2);
        DUE.is("its place", x.of(4, 1), 55);
    }

    private static int[] seen(CabRanks x) {
        int[] all = new int[600];
        int n = 0;
        all[n++] = x.count(3);
        all[n++] = x.count(2);
        for (int cab = 0; cab < 6; cab++) {
            for (int what = 0; what < 10; what++) {
                all[n++] = x.of(cab, what);
            }
        }
        for (int rank = 0; rank < 2; rank++) {
            all[n++] = x.rank(rank, 3);
            all[n++] = x.rank(rank, 4);
            for (int k = 0; k < 6; k++) {
                all[n++] = x.row(rank, k);
            }
        }
        all[n++] = x.pass(-1, 0);
        for (int k = 0; k < 6; k++) {
            for (int what = 0; what < 5; what++) {
                all[n++] = x.pass(k, what);
            }
        }
        return all;
    }

    private static void imageLeavesTheRest() {
        CabRanks x = standing(2);
        x.image(0);
        x.chance(0, 16, 1, 0);
        x.reading(0, 5, 2);
        x.feed(0, 0, 0, 0, 0);
        x.back(0);
        DUE.is("CHANCES stay", x.worth(0, 0, 1), 110000);
        DUE.is("the BOOK stays", x.count(4), 1);
        DUE.is("the text stays", x.count(5), 20);
        Due.text(x, "rank a 10 1 1;");
        x.city();
        DUE.is("a CITY with a FAULT leaves the image", x.back(0), true);
        Due.text(x, "rank a 10 1 1;fare 0 0 1 0;");
        x.city();
        DUE.is("a new CITY has none", x.back(0), false);
    }

    private static void imageOfTicketRow() {
        CabRanks x = standing(3);
        x.take(0, 2, 10);
        x.take(0, 2, 10);
        x.go(2);
        x.drive(0, 0);
        x.image(0);
        x.take(0, 50, 10);
        x.go(50);
        x.drive(0, 0);
        x.back(0);
        x.drive(1, 0);
        DUE.is("0 came by TICKET", x.row(0, 0), 0);
        DUE.is("1 behind it", x.row(0, 1), 1);
        DUE.is("2 is passed", x.row(0, 2), 2);
    }

    private static void imageOfPasses() {
        CabRanks x = standing(3);
        x.refuse(0);
        x.image(0);
        x.go(4);
        x.refuse(0);
        x.image(1);
        x.back(0);
        x.go(9);
        x.change(2, 0);
        DUE.is("the second PASS", x.pass(1, 0), 9);
        x.back(1);
        DUE.is("two PASSES", x.pass(-1, 0), 2);
        int[] want = {4, 1, 0, 3, 2};
        for (int what = 0; what < 5; what++) {
            DUE.is("the second PASS as it was " + what, x.pass(1, what), want[what]);
        }
        for (int k = 0; k < 50; k++) {
            x.refuse(0);
        }
        x.back(0);
        DUE.is("one PASS", x.pass(-1, 0), 1);
        DUE.is("the first PASS as it was", x.pass(0, 0), 0);
        DUE.is("no second one", x.pass(1, 0), -1);
    }

    private static void counts() {
        CabRanks x = standing(5);
        x.cab(0, 3);
        x.drive(5, 0);
        x.cab(0, 3);
        x.take(0, 5, 5);
        x.go(3);
        x.reading(1, 3, 0);
        x.feed(0, 0, 0, 0, 0);
        int[] want = {2, 1, 7, 3, 1, 20, 4, 1, -1};
        for (int what = 0; what < want.length; what++) {
            DUE.is("count(" + what + ")", x.count(what), want[what]);
        }
        DUE.is("count(-1)", x.count(-1), -1);
        DUE.is("count(least)", x.count(Integer.MIN_VALUE), -1);
    }
}
