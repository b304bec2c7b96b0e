/** Promises 23 to 26: people, brought, dead, toLift. */
public final class PeopleTest {
    private static final Due DUE = new Due("PeopleTest");

    public static void main(String[] args) {
        people();
        bringing();
        bringingAll();
        bringingChoice();
        dead();
        lifting();
        liftingTies();
        DUE.close();
    }

    private static void stand(CabRanks x, int rank, int many) {
        for (int k = 0; k < many; k++) {
            int cab = x.cab(0, x.rank(rank, 0));
            x.drive(cab, rank);
        }
    }

    private static void people() {
        CabRanks x = Due.city("rank a 10 9 9;rank b 30 9 9;fare 0 0 1 0;");
        DUE.is("no rank", x.people(2, 1), false);
        DUE.is("no rank -1", x.people(-1, 1), false);
        DUE.is("21", x.people(0, 21), false);
        DUE.is("-1", x.people(0, -1), false);
        DUE.is("none", x.rank(0, 4), 0);
        DUE.is("20", x.people(0, 20), true);
        DUE.is("20", x.rank(0, 4), 20);
        DUE.is("0", x.people(0, 0), true);
        DUE.is("0", x.rank(0, 4), 0);
    }

    private static void bringing() {
        CabRanks x = Due.city("rank a 50 9 9;rank b 0 9 9;rank c 99 9 9;fare 0 0 1 0;");
        DUE.is("what 2", x.brought(2), -1);
        DUE.is("what -1", x.brought(-1), -1);
        DUE.is("none", x.brought(0), 0);
        DUE.is("none", x.brought(1), 0);
        stand(x, 0, 3);
        x.people(0, 3);
        x.people(1, 1);
        DUE.is("none is SPARE", x.brought(0), 0);
        DUE.is("none is SPARE", x.brought(1), 0);
        x.people(0, 1);
        DUE.is("one", x.brought(0), 1);
        DUE.is("one", x.brought(1), 50);
        x.people(2, 1);
        DUE.is("two", x.brought(0), 2);
        DUE.is("two", x.brought(1), 99);
        x.people(0, 2);
        DUE.is("one to the nearer", x.brought(0), 1);
        DUE.is("one to the nearer", x.brought(1), 49);
        x.people(0, 20);
        x.people(1, 20);
        x.people(2, 20);
        DUE.is("all are WANTED", x.brought(0), 0);
        x.people(0, 0);
        x.people(2, 0);
        DUE.is("all three", x.brought(0), 3);
        DUE.is("all three", x.brought(1), 150);
        stand(x, 2, 13);
        DUE.is("all sixteen", x.brought(0), 16);
        DUE.is("all sixteen", x.brought(1), 150 + 13 * 99);
        x.people(1, 4);
        DUE.is("the nearest four", x.brought(0), 4);
        DUE.is("the nearest four", x.brought(1), 150 + 99);
    }

    private static void bringingAll() {
        for (int rank = 0; rank < 2; rank++) {
            CabRanks x = Due.city("rank a 10 9 9;rank b 99 9 9;fare 0 0 1 0;");
            stand(x, rank, 16);
            x.people(1 - rank, 20);
            DUE.is("sixteen over one stretch", x.brought(0), 16);
            DUE.is("sixteen over one stretch", x.brought(1), 16 * 89);
        }
    }

    private static void bringingChoice() {
        // the nearest pair first would leave the far ones to one another
        CabRanks x = Due.city("rank a 0 9 9;rank b 40 9 9;rank c 45 9 9;rank d 99 9 9;fare 0 0 1 0;");
        stand(x, 1, 1);
        stand(x, 3, 1);
        x.people(0, 1);
        x.people(2, 1);
        DUE.is("two", x.brought(0), 2);
        DUE.is("two", x.brought(1), 40 + 54);
        // fewer are WANTED than SPARE: those between count, not the order of RANKS
        CabRanks y = Due.city("rank a 60 9 9;rank b 0 9 9;rank c 30 9 9;rank d 20 9 9;fare 0 0 1 0;");
        stand(y, 0, 2);
        stand(y, 1, 2);
        y.people(2, 2);
        y.people(3, 1);
        DUE.is("three", y.brought(0), 3);
        DUE.is("three", y.brought(1), 20 + 30 + 30);
        y.people(0, 20);
        DUE.is("two of three", y.brought(0), 2);
        DUE.is("two of three", y.brought(1), 20 + 30);
    }

    private static void dead() {
        CabRanks none = new CabRanks();
        DUE.is("no CITY", none.dead(0, 0), -1);
        DUE.is("no CITY, at 23", none.dead(23, 0), -1);
        DUE.is("no CITY, a LET lifted", none.dead(0, 1), -1);
        Due.text(none, "rank a 1 1 1;fare 0 0 1 0;");
        DUE.is("a text is no CITY yet", none.dead(0, 0), -1);
        CabRanks lawless = Due.city("rank a 1 1 1;fare 0 0 1 0;");
        DUE.is("a CITY without LETS", lawless.dead(0, 0), 0);
        DUE.is("none of them to lift", lawless.dead(0, 1), -1);
        CabRanks x = Due.city("rank a 10 9 9;rank b 30 1 0;fare 0 0 1 0;let a 1 6 9;let b 2 0 23;let b 1 7 7;");
        DUE.is("no CABS", x.dead(0, 0), 0);
        x.cab(1, 12);
        x.cab(0, 99);
        x.cab(2, 0);
        DUE.is("hour -1", x.dead(-1, 0), -1);
        DUE.is("hour 24", x.dead(24, 0), -1);
        DUE.is("lifted 8", x.dead(0, 8), -1);
        DUE.is("lifted -1", x.dead(0, -1), -1);
        DUE.is("at 0", x.dead(0, 0), 100 + 100 + 30);
        DUE.is("at 6", x.dead(6, 0), 2 + 100 + 30);
        DUE.is("at 7", x.dead(7, 0), 2 + 100 + 30);
        DUE.is("at 7, a lifted", x.dead(7, 1), 2 + 89 + 10);
        DUE.is("at 0, a let of b lifted: fewer may", x.dead(0, 2), 100 + 100 + 100);
        DUE.is("at 0, the other let of b lifted", x.dead(0, 4), 100 + 100 + 30);
        DUE.is("at 0, both lets of b lifted", x.dead(0, 6), 18 + 69 + 30);
        DUE.is("at 0, all lifted", x.dead(0, 7), 2 + 69 + 10);
        x.drive(0, 0);
        DUE.is("EMPTY alone", x.dead(0, 7), 69 + 10);
        // the MINUTE's hour is not asked, nor is room
        x.go(60);
        DUE.is("the room aside", x.dead(0, 0), 100 + 100 + 30);
    }

    private static void lifting() {
        CabRanks x = Due.city("rank a 10 9 9;rank b 30 1 0;fare 0 0 1 0;let a 1 6 9;let b 2 0 23;let b 1 7 7;");
        x.cab(1, 12);
        x.cab(0, 99);
        x.cab(2, 0);
        DUE.is("most -1", x.toLift(0, -1), -1);
        DUE.is("most 2001", x.toLift(0, 2001), -1);
        DUE.is("hour 24", x.toLift(24, 0), -1);
        DUE.is("hour -1", x.toLift(-1, 0), -1);
        DUE.is("2000", x.toLift(0, 2000), 0);
        DUE.is("230 as they are", x.toLift(0, 230), 0);
        DUE.is("229: a", x.toLift(0, 229), 1);
        DUE.is("101: a", x.toLift(0, 101), 1);
        DUE.is("100: all", x.toLift(0, 100), 7);
        DUE.is("81: all", x.toLift(0, 81), 7);
        DUE.is("80: none do", x.toLift(0, 80), -1);
    }

    private static void liftingTies() {
        CabRanks x = Due.city("rank a 40 9 9;rank b 60 9 9;fare 0 0 1 0;let a 3 0 23;let a 3 0 0;let b 3 0 23;");
        x.cab(0, 50);
        DUE.is("one alone is fewer than two", x.toLift(0, 10), 4);
        CabRanks y = Due.city("rank a 40 9 9;rank b 60 9 9;fare 0 0 1 0;let b 3 0 23;let a 3 0 23;");
        y.cab(0, 50);
        DUE.is("of like ones the least", y.toLift(0, 10), 1);
        CabRanks z = Due.city("rank a 40 9 9;fare 0 0 1 0;let a 3 0 23;");
        DUE.is("no CABS: none is needed", z.toLift(0, 0), 0);
        StringBuilder eight = new StringBuilder("rank a 40 9 9;fare 0 0 1 0;");
        for (int let = 0; let < 8; let++) {
            eight.append("let a 3 ").append(let).append(" 23;");
        }
        CabRanks e = Due.city(eight.toString());
        e.cab(0, 45);
        DUE.is("all eight", e.toLift(12, 99), 255);
        DUE.is("one too few of them", e.dead(12, 254), 100);
        DUE.is("all eight", e.dead(12, 255), 5);
        DUE.is("no ninth", e.dead(12, 256), -1);
    }
}
