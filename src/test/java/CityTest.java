/** Promises 6 to 8: rank, may, price. */
public final class CityTest {
    private static final Due DUE = new Due("CityTest");

    public static void main(String[] args) {
        ranks();
        plates();
        prices();
        DUE.close();
    }

    private static void ranks() {
        CabRanks x = Due.city("rank a 99 9 0;rank b 0 1 9;fare 0 0 1 0;");
        int[][] want = {{99, 9, 0, 0, 0}, {0, 1, 9, 2, 17}};
        x.cab(0, 0);
        x.cab(0, 0);
        x.drive(0, 1);
        x.drive(1, 1);
        x.people(1, 17);
        for (int rank = 0; rank < 2; rank++) {
            for (int what = 0; what < 5; what++) {
                DUE.is("rank(" + rank + ", " + what + ")", x.rank(rank, what), want[rank][what]);
            }
            DUE.is("rank 5", x.rank(rank, 5), -1);
            DUE.is("rank -1", x.rank(rank, -1), -1);
        }
        DUE.is("no rank 2", x.rank(2, 0), -1);
        DUE.is("no rank 6", x.rank(6, 0), -1);
        DUE.is("no rank -1", x.rank(-1, 0), -1);
        DUE.is("no rank", x.rank(Integer.MAX_VALUE, 0), -1);
    }

    private static void plates() {
        CabRanks x = Due.city("rank a 1 1 1;rank b 2 1 1;rank c 3 1 1;fare 0 0 1 0;"
                + "let a 0 6 9;let b 1 0 23;let a 2 23 23;let a 0 11 11;");
        for (int zone = 0; zone < 4; zone++) {
            for (int hour = 0; hour < 24; hour++) {
                String call = ", " + zone + ", " + hour + ")";
                boolean a = zone == 0 && (hour >= 6 && hour <= 9 || hour == 11) || zone == 2 && hour == 23;
                DUE.is("may(0" + call, x.may(0, zone, hour), a ? 1 : 0);
                DUE.is("may(1" + call, x.may(1, zone, hour), zone == 1 ? 1 : 0);
                DUE.is("may(2" + call, x.may(2, zone, hour), 1);
            }
        }
        DUE.is("no rank", x.may(3, 0, 0), -1);
        DUE.is("no rank -1", x.may(-1, 0, 0), -1);
        DUE.is("no zone 4", x.may(2, 4, 0), -1);
        DUE.is("no zone -1", x.may(2, -1, 0), -1);
        DUE.is("no hour 24", x.may(2, 0, 24), -1);
        DUE.is("no hour -1", x.may(2, 0, -1), -1);
    }

    private static void prices() {
        CabRanks x = Due.city("rank a 1 1 1;fare 120 30 5 7;coin 10;");
        DUE.is("1 minute", x.price(1, 0), 150);
        DUE.is("5 minutes", x.price(5, 0), 150);
        DUE.is("6 minutes, begun", x.price(6, 0), 180);
        DUE.is("1 waited, up", x.price(1, 1), 160);
        DUE.is("2 waited", x.price(1, 2), 170);
        DUE.is("10 waited, a multiple stays", x.price(1, 10), 220);
        DUE.is("all", x.price(240, 240), 120 + 30 * 48 + 1680);
        DUE.is("0 minutes", x.price(0, 0), -1);
        DUE.is("241 minutes", x.price(241, 0), -1);
        DUE.is("-1 waited", x.price(1, -1), -1);
        DUE.is("241 waited", x.price(1, 241), -1);
        CabRanks y = Due.city("rank a 1 1 1;fare 999 999 1 99;");
        DUE.is("the greatest, coin 1", y.price(240, 240), 999 + 999 * 240 + 99 * 240);
        CabRanks z = Due.city("rank a 1 1 1;fare 0 0 99 0;coin 50;");
        DUE.is("nothing", z.price(240, 240), 0);
    }
}
