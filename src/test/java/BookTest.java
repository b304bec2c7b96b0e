/** Promises 27 to 29: reading, jumpers, cant. */
public final class BookTest {
    private static final Due DUE = new Due("BookTest");

    public static void main(String[] args) {
        readings();
        readingsAndCabs();
        jumpers();
        sureJumpers();
        nextOfRank();
        cant();
        cantEdges();
        DUE.close();
    }

    private static int row(int... cabs) {
        int digits = 0;
        for (int cab : cabs) {
            digits = digits * 17 + cab + 1;
        }
        return digits;
    }

    private static CabRanks cabs(int many) {
        CabRanks x = Due.city("rank a 10 9 9;rank b 30 9 9;rank c 50 9 9;fare 0 0 1 0;");
        for (int k = 0; k < many; k++) {
            x.cab(0, 0);
        }
        return x;
    }

    private static void readings() {
        CabRanks x = cabs(16);
        DUE.is("no rank", x.reading(3, 0, 0), -1);
        DUE.is("no rank -1", x.reading(-1, 0, 0), -1);
        DUE.is("minute -1", x.reading(0, -1, 0), -1);
        DUE.is("least minute", x.reading(0, Integer.MIN_VALUE, 0), -1);
        DUE.is("cabs -1", x.reading(0, 0, -1), -1);
        DUE.is("least cabs", x.reading(0, 0, Integer.MIN_VALUE), -1);
        DUE.is("a digit 0 at the end", x.reading(0, 0, 17), -1);
        DUE.is("a digit 0 within", x.reading(0, 0, 289 + 1), -1);
        DUE.is("a CAB twice", x.reading(0, 0, row(4, 4)), -1);
        DUE.is("a CAB twice, apart", x.reading(0, 0, row(4, 1, 2, 4)), -1);
        DUE.is("seven", x.reading(0, 0, row(0, 1, 2, 3, 4, 5, 6)), -1);
        DUE.is("greatest cabs", x.reading(0, 0, Integer.MAX_VALUE), -1);
        DUE.is("none yet", x.count(4), 0);
        DUE.is("nobody", x.reading(0, 3, 0), 1);
        DUE.is("six", x.reading(1, 3, row(15, 14, 13, 12, 11, 10)), 2);
        DUE.is("the last CAB", x.reading(0, 3, 16), 3);
        DUE.is("less than the last of another RANK", x.reading(2, 2, 0), -1);
        for (int k = 4; k <= 12; k++) {
            DUE.is("reading " + k, x.reading(k % 3, k, 1), k);
        }
        DUE.is("a 13th", x.reading(0, 20, 1), -1);
        DUE.is("twelve", x.count(4), 12);
        CabRanks y = cabs(1);
        DUE.is("the greatest MINUTE", y.reading(0, Integer.MAX_VALUE, 1), 1);
        DUE.is("and again", y.reading(1, Integer.MAX_VALUE, 1), 2);
        DUE.is("and less", y.reading(1, Integer.MAX_VALUE - 1, 1), -1);
    }

    private static void readingsAndCabs() {
        CabRanks x = cabs(2);
        DUE.is("no such CAB", x.reading(0, 0, row(2)), -1);
        DUE.is("no such CAB", x.reading(0, 0, row(2, 1)), -1);
        DUE.is("both", x.reading(0, 0, row(1, 0)), 1);
        x.cab(0, 0);
        DUE.is("now there is one", x.reading(0, 0, row(2)), 2);
    }

    private static void jumpersOf(int want, int sure, int heaps, int first, int next) {
        CabRanks x = cabs(16);
        x.reading(0, 0, first);
        x.reading(0, 1, next);
        String call = first + " and " + next;
        DUE.is("jumpers of " + call, x.jumpers(0, 0), want);
        DUE.is("sure of " + call, x.jumpers(0, 1), sure);
        DUE.is("heaps of " + call, x.jumpers(0, 2), heaps);
        DUE.is("what 3", x.jumpers(0, 3), -1);
        DUE.is("what -1", x.jumpers(0, -1), -1);
    }

    private static void jumpers() {
        jumpersOf(0, 0, 1, 0, 0);
        jumpersOf(0, 0, 1, row(1, 2, 3), 0);
        jumpersOf(0, 0, 1, row(1, 2, 3), row(4, 5));
        jumpersOf(0, 0, 1, row(1, 2, 3), row(9, 1, 8, 2, 7, 3));
        jumpersOf(0, 0, 1, row(9, 1, 8, 2, 7, 3), row(1, 2, 3));
        jumpersOf(1, 0, 2, row(1, 2), row(2, 1));
        jumpersOf(2, 0, 3, row(1, 2, 3), row(3, 2, 1));
        jumpersOf(5, 0, 6, row(1, 2, 3, 4, 5, 6), row(6, 5, 4, 3, 2, 1));
        jumpersOf(3, 0, 8, row(0, 1, 2, 3, 4, 5), row(1, 0, 3, 2, 5, 4));
    }

    private static void sureJumpers() {
        jumpersOf(1, 1 << 3, 1, row(1, 2, 3), row(3, 1, 2));
        jumpersOf(1, 1 << 1, 1, row(1, 2, 3), row(2, 3, 1));
        jumpersOf(1, 1 << 15, 1, row(0, 1, 2, 15), row(15, 0, 1, 2));
        jumpersOf(2, 1 << 4, 2, row(1, 2, 3, 4), row(4, 2, 1, 3));
        jumpersOf(2, 1 << 9 | 1 << 8, 1, row(1, 2, 3, 8, 9), row(9, 8, 1, 2, 3));
    }

    private static void nextOfRank() {
        CabRanks x = cabs(4);
        x.reading(0, 0, row(1, 2, 3));
        x.reading(1, 0, row(0));
        x.reading(2, 0, row(3, 2, 1));
        x.reading(0, 0, row(2, 1, 3));
        x.reading(0, 0, row(3, 2, 1));
        x.reading(1, 9, row(0));
        DUE.is("the next of its RANK", x.jumpers(0, 0), 1);
        DUE.is("of RANK 1", x.jumpers(1, 0), 0);
        DUE.is("no next", x.jumpers(2, 0), -1);
        DUE.is("of the second and the third", x.jumpers(3, 0), 1);
        DUE.is("SURE of the second and the third", x.jumpers(3, 1), 1 << 3);
        DUE.is("no next", x.jumpers(4, 0), -1);
        DUE.is("no next", x.jumpers(5, 0), -1);
        DUE.is("none such", x.jumpers(6, 0), -1);
        DUE.is("none such", x.jumpers(12, 0), -1);
        DUE.is("none such -1", x.jumpers(-1, 0), -1);
    }

    private static void cant() {
        CabRanks x = cabs(6);
        x.reading(0, 0, row(1, 2));
        x.reading(1, 10, row(3, 4));
        x.reading(1, 19, row(5, 2));
        x.reading(1, 20, row(1, 2));
        x.reading(2, 39, row(4));
        x.reading(0, 39, row(2, 1));
        x.reading(2, 40, row(5, 2));
        DUE.is("the first", x.cant(0), -1);
        DUE.is("nobody in both", x.cant(1), -1);
        DUE.is("19 MINUTES, 20 places", x.cant(2), 0);
        DUE.is("20 MINUTES, 20 places", x.cant(3), -1);
        DUE.is("29 MINUTES, 20 places", x.cant(4), -1);
        DUE.is("19 from the fourth", x.cant(5), 3);
        DUE.is("40 from the first, 1 from the sixth", x.cant(6), 5);
        DUE.is("none such", x.cant(7), -1);
        DUE.is("none such", x.cant(12), -1);
        DUE.is("none such -1", x.cant(-1), -1);
    }

    private static void cantEdges() {
        CabRanks x = cabs(2);
        x.reading(0, 5, row(0));
        x.reading(1, 5, row(1));
        x.reading(2, 5, row(1, 0));
        x.reading(0, 5, row(0));
        x.reading(0, Integer.MAX_VALUE, row(1, 0));
        DUE.is("the first ahead", x.cant(2), 0);
        DUE.is("the same RANK can be", x.cant(3), 2);
        DUE.is("long after", x.cant(4), -1);
        CabRanks y = cabs(1);
        y.reading(0, 5, 1);
        y.reading(0, 5, 1);
        DUE.is("twice at one RANK", y.cant(1), -1);
    }
}
