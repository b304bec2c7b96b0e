/** Promises 9 to 18: cab, of, drive, row, take, call, refuse, change, go, pass. */
public final class DayTest {
    private static final Due DUE = new Due("DayTest");

    public static void main(String[] args) {
        cabs();
        driving();
        platesAndRoom();
        order();
        taking();
        tickets();
        ticketEdges();
        ticketRow();
        calling();
        refusing();
        changing();
        going();
        passes();
        DUE.close();
    }

    private static void all(CabRanks x, int cab, int... want) {
        for (int what = 0; what < want.length; what++) {
            DUE.is("of(" + cab + ", " + what + ")", x.of(cab, what), want[what]);
        }
    }

    private static void row(CabRanks x, int rank, int... want) {
        for (int k = 0; k < want.length; k++) {
            DUE.is("row(" + rank + ", " + k + ")", x.row(rank, k), want[k]);
            DUE.is("its place in the row", x.of(want[k], 3), k);
        }
        DUE.is("row(" + rank + ", end)", x.row(rank, want.length), -1);
        DUE.is("how many", x.rank(rank, 3), want.length);
    }

    private static void pass(CabRanks x, int k, int... want) {
        for (int what = 0; what < want.length; what++) {
            DUE.is("pass(" + k + ", " + what + ")", x.pass(k, what), want[what]);
        }
        DUE.is("pass(" + k + ", 5)", x.pass(k, 5), -1);
        DUE.is("pass(" + k + ", -1)", x.pass(k, -1), -1);
    }

    /** CABS 0 .. many - 1 STAND at RANK 0, which is at place 10. */
    private static CabRanks standing(String more, int many) {
        CabRanks x = Due.city("rank a 10 5 5;rank b 30 5 5;fare 100 10 1 5;" + more);
        for (int cab = 0; cab < many; cab++) {
            x.cab(0, 10);
            x.drive(cab, 0);
        }
        return x;
    }

    private static void cabs() {
        CabRanks x = standing("", 0);
        DUE.is("zone 4", x.cab(4, 0), -1);
        DUE.is("zone -1", x.cab(-1, 0), -1);
        DUE.is("place 100", x.cab(0, 100), -1);
        DUE.is("place -1", x.cab(0, -1), -1);
        for (int cab = 0; cab < 16; cab++) {
            DUE.is("cab", x.cab(cab % 4, 99 - cab), cab);
            all(x, cab, 0, 99 - cab, -1, -1, -1, -1, -1, 0, 0, -1);
        }
        DUE.is("a 17th", x.cab(0, 0), -1);
        DUE.is("16", x.count(2), 16);
        DUE.is("of 16", x.of(16, 0), -1);
        DUE.is("of -1", x.of(-1, 0), -1);
        DUE.is("what 10", x.of(0, 10), -1);
        DUE.is("what -1", x.of(0, -1), -1);
    }

    private static void driving() {
        CabRanks x = standing("", 0);
        x.cab(2, 17);
        DUE.is("no rank 2", x.drive(0, 2), false);
        DUE.is("no rank -1", x.drive(0, -1), false);
        DUE.is("no cab 1", x.drive(1, 0), false);
        DUE.is("no cab -1", x.drive(-1, 0), false);
        DUE.is("drive", x.drive(0, 0), true);
        all(x, 0, 1, -1, 0, -1, 7, -1, -1, 0, 0, -1);
        DUE.is("not EMPTY, it DRIVES", x.drive(0, 1), false);
        x.go(6);
        all(x, 0, 1, -1, 0, -1, 7, -1, -1, 0, 0, -1);
        x.go(1);
        all(x, 0, 2, 10, 0, 0, -1, -1, -1, 0, 0, -1);
        DUE.is("not EMPTY, it STANDS", x.drive(0, 1), false);
        x.go(3);
        all(x, 0, 2, 10, 0, 0, -1, -1, -1, 0, 3, -1);
        row(x, 0, 0);
        DUE.is("row -1", x.row(0, -1), -1);
        DUE.is("row of no rank", x.row(2, 0), -1);
        DUE.is("row of rank -1", x.row(-1, 0), -1);
        x.take(0, 2, 50);
        all(x, 0, 3, -1, -1, -1, 12, -1, -1, 120, 3, -1);
        DUE.is("not EMPTY, it is BUSY", x.drive(0, 1), false);
        x.go(2);
        all(x, 0, 0, 50, -1, -1, -1, -1, -1, 120, 3, -1);
        DUE.is("from there", x.drive(0, 1), true);
        DUE.is("20 minutes", x.of(0, 4), 32);
    }

    private static void platesAndRoom() {
        CabRanks x = Due.city("rank a 10 1 1;rank b 30 1 0;fare 0 0 1 0;let b 1 1 1;");
        x.cab(0, 10);
        x.cab(1, 10);
        x.drive(0, 1);
        x.drive(1, 1);
        x.go(20);
        all(x, 0, 0, 30, -1, -1, -1);
        all(x, 1, 0, 30, -1, -1, -1);
        x.go(39);
        x.drive(1, 1);
        DUE.is("at once and not yet", x.of(1, 0), 0);
        x.go(1);
        x.drive(1, 1);
        all(x, 1, 2, 30, 1, 0, -1);
        x.cab(1, 29);
        x.drive(2, 1);
        x.go(1);
        all(x, 2, 0, 30, -1, -1, -1);
        x.take(1, 1, 0);
        x.drive(2, 1);
        all(x, 2, 2, 30, 1, 0, -1);
        x.go(60);
        DUE.is("one who STANDS stays when the hour is over", x.of(2, 0), 2);
        // the hour is that in which it comes, of the day
        CabRanks y = Due.city("rank a 10 1 1;fare 0 0 1 0;let a 0 23 23;");
        y.cab(0, 11);
        for (int k = 0; k < 4; k++) {
            y.go(300);
        }
        y.go(179);
        y.drive(0, 0);
        y.go(1);
        DUE.is("23 o'clock", y.of(0, 0), 2);
        y.take(0, 60, 11);
        y.go(60);
        y.drive(0, 0);
        y.go(1);
        DUE.is("0 o'clock of the next day", y.of(0, 0), 0);
        for (int k = 0; k < 4; k++) {
            y.go(300);
        }
        y.go(180);
        y.drive(0, 0);
        DUE.is("23 o'clock of the next day", y.of(0, 0), 2);
        CabRanks z = Due.city("rank a 10 1 1;fare 0 0 1 0;");
        for (int cab = 0; cab < 3; cab++) {
            z.cab(0, 10);
            z.drive(cab, 0);
        }
        row(z, 0, 0, 1);
        DUE.is("no room for P and F", z.of(2, 0), 0);
    }

    private static void order() {
        CabRanks x = standing("", 0);
        x.cab(0, 14);
        x.cab(0, 6);
        x.cab(0, 13);
        x.cab(0, 10);
        x.drive(2, 0);
        x.drive(1, 0);
        x.drive(0, 0);
        x.go(2);
        x.drive(3, 0);
        x.go(3);
        row(x, 0, 3, 2, 0, 1);
        DUE.is("waited", x.of(3, 8), 3);
        DUE.is("waited from when it came", x.of(2, 8), 2);
        DUE.is("waited from when it came", x.of(0, 8), 1);
    }

    private static void taking() {
        CabRanks x = standing("", 2);
        DUE.is("0 minutes", x.take(0, 0, 5), -1);
        DUE.is("241 minutes", x.take(0, 241, 5), -1);
        DUE.is("place -1", x.take(0, 1, -1), -1);
        DUE.is("place 100", x.take(0, 1, 100), -1);
        DUE.is("no rank", x.take(2, 1, 0), -1);
        DUE.is("no rank -1", x.take(-1, 1, 0), -1);
        DUE.is("nobody", x.take(1, 1, 0), -1);
        row(x, 0, 0, 1);
        x.go(9);
        DUE.is("take", x.take(0, 240, 99), 0);
        all(x, 0, 3, -1, -1, -1, 249, -1, -1, 2500, 9, -1);
        row(x, 0, 1);
        DUE.is("take the next", x.take(0, 1, 0), 1);
        row(x, 0);
        DUE.is("nobody more", x.take(0, 1, 0), -1);
        x.go(239);
        DUE.is("still BUSY", x.of(0, 0), 3);
        x.go(1);
        all(x, 0, 0, 99, -1, -1, -1, -1, -1, 2500, 9, -1);
        DUE.is("no pass", x.pass(-1, 0), 0);
    }

    private static void tickets() {
        CabRanks x = standing("short 15 40;", 4);
        x.go(3);
        DUE.is("take", x.take(0, 14, 25), 0);
        all(x, 0, 3, -1, -1, -1, 17, 0, 43, 240);
        DUE.is("not short", x.take(0, 15, 25), 1);
        all(x, 1, 3, -1, -1, -1, 18, -1, -1, 250);
        x.go(14);
        x.drive(0, 1);
        x.go(5);
        all(x, 0, 2, 30, 1, 0, -1, 0, 43);
        x.take(1, 1, 10);
        all(x, 0, 3, -1, -1, -1, 23, 1, 62);
        x.go(1);
        x.drive(0, 0);
        all(x, 0, 2, 10, 0, 2, -1, 1, 62);
        DUE.is("another RANK's TICKET passes none", x.pass(-1, 0), 0);
        row(x, 0, 2, 3, 0);
        // a longer FARE leaves the TICKET it has
        x.take(0, 30, 10);
        x.take(0, 30, 10);
        x.take(0, 30, 10);
        all(x, 0, 3, -1, -1, -1, 53, 1, 62);
        x.go(30);
        x.drive(2, 1);
        x.drive(3, 1);
        x.drive(0, 1);
        x.go(20);
        DUE.is("minute", x.count(3), 73);
        row(x, 1, 0, 2, 3);
    }

    private static void ticketEdges() {
        CabRanks x = standing("short 15 40;", 3);
        x.take(0, 5, 10);
        x.go(40);
        x.drive(0, 0);
        row(x, 0, 0, 1, 2);
        DUE.is("on its last MINUTE", x.of(0, 5), -1);
        DUE.is("gone", x.of(0, 6), -1);
        pass(x, 0, 40, 0, 0, 1, 2);
        x.take(0, 5, 10);
        x.go(41);
        x.drive(0, 0);
        row(x, 0, 1, 2, 0);
        DUE.is("a MINUTE too late: the TICKET stays told", x.of(0, 5), 0);
        DUE.is("a MINUTE too late: till when", x.of(0, 6), 80);
        DUE.is("none is told", x.pass(-1, 0), 1);
        // alone in the row: the TICKET is gone, and no PASS told
        CabRanks y = standing("short 15 40;", 1);
        y.take(0, 5, 10);
        y.go(5);
        y.drive(0, 0);
        all(y, 0, 2, 10, 0, 0, -1, -1, -1);
        DUE.is("none was passed", y.pass(-1, 0), 0);
        // no room: the TICKET stays
        CabRanks z = Due.city("rank a 10 1 0;fare 0 0 1 0;short 9 200;");
        z.cab(0, 10);
        z.cab(0, 10);
        z.drive(0, 0);
        z.take(0, 1, 10);
        z.drive(1, 0);
        z.go(1);
        z.drive(0, 0);
        all(z, 0, 0, 10, -1, -1, -1, 0, 200);
        z.take(0, 100, 10);
        z.drive(0, 0);
        all(z, 0, 2, 10, 0, 0, -1, -1, -1);
    }

    private static void ticketRow() {
        CabRanks x = standing("short 15 240;", 5);
        for (int k = 0; k < 3; k++) {
            x.take(0, 2, 10);
        }
        x.go(2);
        x.drive(1, 0);
        row(x, 0, 1, 3, 4);
        pass(x, 0, 2, 1, 0, 1, 2);
        x.drive(0, 0);
        row(x, 0, 1, 0, 3, 4);
        pass(x, 1, 2, 0, 0, 1, 2);
        // one who came by TICKET but isn't at the beginning any more counts no more
        x.change(1, 4);
        row(x, 0, 4, 0, 3, 1);
        x.drive(2, 0);
        row(x, 0, 2, 4, 0, 3, 1);
        pass(x, 3, 2, 2, 0, 1, 4);
        // taken and back without a TICKET, it came at the end
        x.take(0, 15, 10);
        x.go(15);
        x.drive(2, 0);
        row(x, 0, 4, 0, 3, 1, 2);
        x.take(0, 3, 10);
        x.go(3);
        x.drive(4, 0);
        row(x, 0, 0, 4, 3, 1, 2);
        // refused, it still came by TICKET
        x.refuse(0);
        x.call(3, 20, 0);
        x.call(2, 20, 0);
        x.change(1, 0);
        row(x, 0, 4, 0, 1);
        x.take(0, 3, 10);
        x.go(3);
        x.drive(4, 0);
        row(x, 0, 0, 1, 4);
    }

    private static void calling() {
        CabRanks x = standing("short 15 40;", 4);
        DUE.is("no cab", x.call(4, 1, 0), false);
        DUE.is("no cab -1", x.call(-1, 1, 0), false);
        DUE.is("0 minutes", x.call(2, 0, 0), false);
        DUE.is("241 minutes", x.call(2, 241, 0), false);
        DUE.is("place 100", x.call(2, 1, 100), false);
        DUE.is("place -1", x.call(2, 1, -1), false);
        row(x, 0, 0, 1, 2, 3);
        x.go(2);
        DUE.is("call", x.call(2, 5, 40), true);
        all(x, 2, 3, -1, -1, -1, 7, -1, -1, 150, 2, -1);
        row(x, 0, 0, 1, 3);
        pass(x, 0, 2, 2, 0, 2, 2);
        DUE.is("BUSY", x.call(2, 5, 40), false);
        DUE.is("call the first", x.call(0, 5, 40), true);
        DUE.is("passed none", x.pass(-1, 0), 1);
        DUE.is("call the last", x.call(3, 5, 40), true);
        pass(x, 1, 2, 3, 0, 2, 1);
        row(x, 0, 1);
        x.go(5);
        DUE.is("EMPTY", x.call(2, 5, 40), false);
        all(x, 2, 0, 40);
        x.drive(2, 0);
        DUE.is("DRIVES", x.call(2, 5, 40), false);
    }

    private static void refusing() {
        CabRanks x = standing("", 3);
        x.go(4);
        DUE.is("nobody", x.refuse(1), -1);
        DUE.is("no rank", x.refuse(2), -1);
        DUE.is("no rank -1", x.refuse(-1), -1);
        DUE.is("refuse", x.refuse(0), 0);
        row(x, 0, 1, 2, 0);
        pass(x, 0, 4, 0, 0, 3, 2);
        all(x, 0, 2, 10, 0, 2, -1, -1, -1, 0, 4);
        x.take(0, 1, 1);
        x.take(0, 1, 1);
        DUE.is("alone", x.refuse(0), 0);
        row(x, 0, 0);
        DUE.is("none is told of 0", x.pass(-1, 0), 1);
    }

    private static void changing() {
        CabRanks x = standing("", 5);
        x.cab(0, 30);
        x.drive(5, 1);
        x.cab(0, 50);
        DUE.is("itself", x.change(2, 2), false);
        DUE.is("two rows", x.change(2, 5), false);
        DUE.is("EMPTY", x.change(2, 6), false);
        DUE.is("EMPTY first", x.change(6, 2), false);
        DUE.is("no cab", x.change(2, 7), false);
        DUE.is("no cab -1", x.change(-1, 2), false);
        row(x, 0, 0, 1, 2, 3, 4);
        DUE.is("change", x.change(1, 4), true);
        row(x, 0, 0, 4, 2, 3, 1);
        pass(x, 0, 0, 1, 0, 4, 3);
        DUE.is("change", x.change(3, 0), true);
        row(x, 0, 3, 4, 2, 0, 1);
        pass(x, 1, 0, 3, 0, 4, 3);
        DUE.is("two", x.pass(-1, 0), 2);
        x.change(4, 3);
        pass(x, 2, 0, 4, 0, 4, 1);
    }

    private static void going() {
        CabRanks x = standing("", 0);
        DUE.is("0", x.go(0), -1);
        DUE.is("-1", x.go(-1), -1);
        DUE.is("301", x.go(301), -1);
        DUE.is("300", x.go(300), 300);
        DUE.is("1", x.go(1), 301);
        DUE.is("the MINUTE", x.count(3), 301);
        // coming in one MINUTE: the order of numbers, and the WAITED of those who stood before
        x.cab(0, 15);
        x.cab(0, 10);
        x.cab(0, 5);
        x.cab(0, 15);
        x.drive(3, 0);
        x.drive(2, 0);
        x.drive(0, 0);
        x.go(4);
        x.drive(1, 0);
        x.go(1);
        row(x, 0, 1, 0, 2, 3);
        DUE.is("waited", x.of(1, 8), 1);
        DUE.is("not yet", x.of(0, 8), 0);
        x.take(0, 7, 10);
        x.go(7);
        x.drive(1, 0);
        x.go(2);
        DUE.is("waited in all", x.of(1, 8), 3);
        DUE.is("STAND", x.count(6), 4);
        DUE.is("EMPTY", x.count(7), 0);
    }

    private static void passes() {
        CabRanks x = standing("", 3);
        DUE.is("none", x.pass(-1, 0), 0);
        DUE.is("no 0th", x.pass(0, 0), -1);
        for (int k = 0; k < 40; k++) {
            x.go(1);
            x.refuse(0);
            DUE.is("passes", x.pass(-1, 0), k + 1);
        }
        pass(x, 0, 1, 0, 0, 3, 2);
        pass(x, 39, 40, 0, 0, 3, 2);
        x.go(1);
        x.change(2, 1);
        DUE.is("the latest 40", x.pass(-1, 0), 40);
        pass(x, 0, 2, 1, 0, 3, 2);
        pass(x, 38, 40, 0, 0, 3, 2);
        pass(x, 39, 41, 2, 0, 4, 1);
        DUE.is("no 40th", x.pass(40, 0), -1);
        DUE.is("no -2nd", x.pass(-2, 0), -1);
        DUE.is("no least", x.pass(Integer.MIN_VALUE, 0), -1);
    }
}
