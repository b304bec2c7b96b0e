/** ==== 2 of the terms: CABS, rows, TICKETS, FARES and PASSES. */
final class EdgesOfDay {
    /** RANK 0 at place 10 has room for 3, RANK 1 at place 30 for 1, RANK 2 at place 50 for all. */
    private static final String CITY = "rank a 10 2 1;rank b 30 1 0;rank c 50 9 9;fare 100 20 2 5;short 10 30;";

    private final Edges edges;
    private final Run city = Run.inCity(CITY);
    private final Run five = city.standing(5, 2, 50);

    private EdgesOfDay(Edges edges) {
        this.edges = edges;
    }

    static void all(Edges edges) {
        EdgesOfDay part = new EdgesOfDay(edges);
        part.cabs();
        part.rows();
        part.driving();
        part.coming();
        part.tickets();
        part.fares();
        part.ticketsOfFares();
        part.calledRefusedChanged();
        part.passes();
        part.laws();
        part.minutes();
    }

    private Edges sentence(String words) {
        return edges.sentence("Terms", words);
    }

    private void cabs() {
        Run fifteen = city.times(15, "cab(3, 70)");
        sentence("==== 2. CABS (at most 16, numbers as they come)")
                .answers(city, "cab(0, 0) -> 0; cab(0, 0) -> 1; cab(0, 0) -> 2; count(2) -> 3")
                .answers(fifteen, "cab(0, 0) -> 15; count(2) -> 16; of(15, 0) -> 0")
                .refuses(fifteen.then("cab(0, 0)"), "cab(0, 0) -> NONE; cab(3, 99) -> NONE")
                .answers(fifteen.then("image(0); cab(0, 0); back(0)"), "count(2) -> 15; of(15, 0) -> NONE;"
                        + " cab(1, 9) -> 15");
        sentence("have a ZONE (0 .. 3)")
                .answers(city, "cab(0, 5) -> 0").answers(city, "cab(3, 5) -> 0")
                .refuses(city, "cab(-1, 5) -> NONE; cab(4, 5) -> NONE; cab(MIN, 5) -> NONE; cab(MAX, 5) -> NONE");
        sentence("and are EMPTY at a place (0 .. 99),")
                .answers(city, "cab(0, 0) -> 0; of(0, 0) -> 0; of(0, 1) -> 0")
                .answers(city, "cab(0, 99) -> 0; of(0, 0) -> 0; of(0, 1) -> 99")
                .refuses(city, "cab(0, -1) -> NONE; cab(0, 100) -> NONE; cab(0, MIN) -> NONE; cab(0, MAX) -> NONE");
        sentence("DRIVE to a RANK, STAND at one, or are BUSY.")
                .answers(city.then("cab(0, 9)"), "of(0, 0) -> 0; drive(0, 0) -> true; of(0, 0) -> 1; go(1) -> 1;"
                        + " of(0, 0) -> 2;"
                        + "take(0, 1, 3) -> 0; of(0, 0) -> 3; go(1) -> 2; of(0, 0) -> 0")
                .refuses(city.then("cab(0, 9); drive(0, 0)"), "drive(0, 0) -> false; drive(0, 1) -> false")
                .refuses(city.then("cab(0, 10); drive(0, 0)"), "drive(0, 0) -> false; drive(0, 1) -> false")
                .refuses(city.then("cab(0, 10); drive(0, 0); take(0, 1, 10)"), "drive(0, 0) -> false;"
                        + " drive(0, 1) -> false");
    }

    private void rows() {
        sentence("Those who STAND at a RANK are a row, the first one at its place 0;")
                .answers(city.standing(1, 0, 10), "row(0, 0) -> 0; of(0, 3) -> 0; row(0, -1) -> NONE;"
                        + " row(0, 1) -> NONE")
                .answers(five, "row(2, 0) -> 0; row(2, 1) -> 1; row(2, 4) -> 4; row(2, 5) -> NONE; of(4, 3) -> 4;"
                        + " row(0, 0) -> NONE");
        sentence("it has room for P and F together,")
                .answers(city.standing(3, 0, 10), "rank(0, 3) -> 3; of(2, 0) -> 2; of(2, 3) -> 2")
                .answers(city.standing(4, 0, 10), "rank(0, 3) -> 3; of(3, 0) -> 0; of(3, 1) -> 10; of(3, 2) -> NONE;"
                        + " row(0, 3) -> NONE")
                .answers(city.standing(1, 1, 30), "rank(1, 3) -> 1; of(0, 0) -> 2")
                .answers(city.standing(2, 1, 30), "rank(1, 3) -> 1; of(0, 0) -> 2; of(1, 0) -> 0")
                .answers(city.standing(16, 2, 50), "rank(2, 3) -> 16; of(15, 3) -> 15; row(2, 15) -> 15;"
                        + " row(2, 16) -> NONE")
                .answers(city.standing(4, 0, 10).then("take(0, 20, 9)"), "drive(3, 0) -> true; of(3, 0) -> 2;"
                        + " of(3, 3) -> 2");
        edges.noBoundary("Terms", "the first P are in the LINE.");
    }

    private void driving() {
        Run apart = Run.inCity("rank a 0 1 1;rank b 99 1 1;fare 1 1 1 1;");
        sentence("A CAB that DRIVES comes behind as many MINUTES as the places are apart (at once, if none).")
                .answers(city.then("cab(0, 10)"), "drive(0, 0) -> true; of(0, 0) -> 2; of(0, 4) -> NONE; count(3) -> 0")
                .answers(city.then("cab(0, 11)"), "drive(0, 0) -> true; of(0, 0) -> 1; of(0, 4) -> 1; go(1) -> 1;"
                        + " of(0, 0) -> 2")
                .answers(city.then("cab(0, 9)"), "drive(0, 0) -> true; of(0, 0) -> 1; of(0, 4) -> 1; go(1) -> 1;"
                        + " of(0, 0) -> 2")
                .answers(apart.then("cab(0, 99)"), "drive(0, 0) -> true; of(0, 4) -> 99; go(98) -> 98; of(0, 0) -> 1;"
                        + " go(1) -> 99; of(0, 0) -> 2")
                .answers(apart.then("cab(0, 0)"), "drive(0, 1) -> true; of(0, 4) -> 99; go(98) -> 98; of(0, 0) -> 1;"
                        + " go(1) -> 99; of(0, 0) -> 2")
                .answers(apart.then("cab(0, 0); go(300)"), "drive(0, 1) -> true; of(0, 4) -> 399");
    }

    private void coming() {
        Run law = Run.inCity("rank a 10 1 0;fare 1 1 1 1;let a 1 1 1;").then("cab(1, 9); cab(0, 10)");
        sentence("As it comes: if its plates MAY not stand there in that hour, or there is no room, it is EMPTY there;")
                .answers(law.then("go(58)"), "drive(0, 0) -> true; go(1) -> 59; of(0, 0) -> 0; of(0, 1) -> 10;"
                        + " of(0, 2) -> NONE; of(0, 4) -> NONE")
                .answers(law.then("go(59)"), "drive(0, 0) -> true; go(1) -> 60; of(0, 0) -> 2; of(0, 2) -> 0")
                .answers(law.then("go(118)"), "drive(0, 0) -> true; go(1) -> 119; of(0, 0) -> 2")
                .answers(law.then("go(119)"), "drive(0, 0) -> true; go(1) -> 120; of(0, 0) -> 0; of(0, 1) -> 10")
                .answers(law.then("go(60)"), "drive(1, 0) -> true; of(1, 0) -> 0; of(1, 1) -> 10")
                .answers(law.then("go(60); drive(0, 0); go(1)"), "of(0, 0) -> 2; go(120) -> 181; of(0, 0) -> 2")
                .answers(law.then("go(60); drive(0, 0); go(1); cab(1, 10)"), "drive(2, 0) -> true; of(2, 0) -> 0;"
                        + " of(2, 1) -> 10; row(0, 0) -> 0")
                .answers(law.then("go(60); cab(1, 10)"), "drive(2, 0) -> true; of(2, 0) -> 2; drive(0, 0) -> true;"
                        + " go(1) -> 61; of(0, 0) -> 0");
    }

    private void tickets() {
        // CAB 0 has a TICKET of RANK 2 till MINUTE 30; CABS 1 and 2 STAND there
        Run one = city.standing(3, 2, 50).then("take(2, 9, 50); go(9)");
        sentence("else, if it has a TICKET of that RANK, and the MINUTE is no later than that lasts,")
                .answers(one, "of(0, 5) -> 2; of(0, 6) -> 30")
                .answers(one.then("go(21)"), "count(3) -> 30; drive(0, 2) -> true; of(0, 3) -> 0; of(0, 5) -> NONE;"
                        + " of(0, 6) -> NONE")
                .answers(one.then("go(22)"), "count(3) -> 31; drive(0, 2) -> true; of(0, 3) -> 2; of(0, 5) -> 2;"
                        + " of(0, 6) -> 30")
                .answers(one.standing(1, 0, 10).then("drive(0, 0); go(40)"), "of(0, 2) -> 0; of(0, 3) -> 1;"
                        + " of(0, 5) -> 2")
                .answers(one, "drive(1, 2) -> false; row(2, 0) -> 1; row(2, 1) -> 2");
        Run full = Run.inCity("rank a 10 1 0;fare 1 1 1 1;"
                + "short 9 99;").standing(1, 0, 10).then("take(0, 1, 10)").standing(1, 0, 10)
                .then("go(1)");
        Run three = city.standing(5, 2, 50).then("take(2, 2, 50); take(2, 2, 50); take(2, 2, 50); go(2)");
        sentence("it goes into the row behind those at its beginning who came into it by TICKET (its TICKET is gone then),"
                        + " else at its end.")
                .answers(full, "drive(0, 0) -> true; of(0, 0) -> 0; of(0, 5) -> 0; of(0, 6) -> 99")
                .answers(three, "drive(2, 2) -> true; row(2, 0) -> 2; row(2, 1) -> 3; drive(0, 2) -> true;"
                        + " row(2, 0) -> 2;"
                        + "row(2, 1) -> 0; row(2, 2) -> 3; drive(1, 2) -> true; row(2, 2) -> 1; row(2, 3) -> 3;"
                        + " row(2, 4) -> 4; of(1, 5) -> NONE")
                .answers(three.then("drive(0, 2); refuse(2)"), "row(2, 0) -> 3; drive(1, 2) -> true; row(2, 0) -> 1;"
                        + " row(2, 1) -> 3; row(2, 3) -> 0")
                .answers(three.then("drive(0, 2); drive(1, 2); change(0, 3)"), "row(2, 0) -> 3; row(2, 1) -> 1;"
                        + " drive(2, 2) -> true; row(2, 0) -> 2;"
                        + "row(2, 1) -> 3; row(2, 2) -> 1")
                .answers(three.then("call(3, 60, 0); call(4, 60, 0)"), "drive(0, 2) -> true; row(2, 0) -> 0;"
                        + " of(0, 5) -> NONE; drive(1, 2) -> true; row(2, 1) -> 1;"
                        + "pass(NONE, 0) -> 0")
                .answers(three.standing(1, 2, 50), "row(2, 0) -> 3; row(2, 1) -> 4; row(2, 2) -> 5");
    }

    private void fares() {
        sentence("A FARE (1 .. 240 minutes, to a place) is TAKEN by the first of a row:")
                .answers(five, "take(2, 1, 0) -> 0; of(0, 4) -> 1; take(2, 240, 99) -> 1; of(1, 4) -> 240;"
                        + " row(2, 0) -> 2; rank(2, 3) -> 3")
                .answers(city.standing(1, 0, 10), "take(0, 15, 15) -> 0; rank(0, 3) -> 0; row(0, 0) -> NONE;"
                        + " take(0, 15, 15) -> NONE")
                .refuses(five, "take(2, 0, 5) -> NONE; take(2, 241, 5) -> NONE; take(2, -1, 5) -> NONE;"
                        + " take(2, MIN, 5) -> NONE; take(2, MAX, 5) -> NONE")
                .refuses(five, "take(2, 5, -1) -> NONE; take(2, 5, 100) -> NONE; take(2, 5, MIN) -> NONE;"
                        + " take(2, 5, MAX) -> NONE")
                .refuses(five, "take(0, 5, 5) -> NONE; take(1, 5, 5) -> NONE");
        sentence("it is BUSY so long, EMPTY at that place then, and has earned the PRICE (nothing waited).")
                .answers(five.then("go(7)"), "take(2, 5, 40) -> 0; of(0, 0) -> 3; of(0, 1) -> NONE; of(0, 7) -> 160;"
                        + " go(4) -> 11; of(0, 0) -> 3;"
                        + "of(0, 4) -> 12; go(1) -> 12; of(0, 0) -> 0; of(0, 1) -> 40; of(0, 4) -> NONE;"
                        + " of(0, 7) -> 160; of(0, 8) -> 7")
                .answers(five.then("take(2, 240, 0); go(239)"), "of(0, 0) -> 3; go(1) -> 240; of(0, 0) -> 0;"
                        + " of(0, 1) -> 0; of(0, 7) -> 2500");
    }

    private void ticketsOfFares() {
        Run other = city.standing(2, 2, 50).then("take(2, 9, 30); go(9); drive(0, 1); go(3)");
        sentence("If the minutes are less than S of short, it has a TICKET of that RANK (in place of another one), that lasts T"
                        + " minutes from then on.")
                .answers(five.then("go(4)"), "take(2, 9, 0) -> 0; of(0, 5) -> 2; of(0, 6) -> 34; go(9) -> 13;"
                        + " of(0, 5) -> 2; of(0, 6) -> 34")
                .answers(five.then("go(4)"), "take(2, 10, 0) -> 0; of(0, 5) -> NONE; of(0, 6) -> NONE")
                .answers(five, "take(2, 1, 0) -> 0; of(0, 5) -> 2; of(0, 6) -> 30")
                .answers(other, "of(0, 2) -> 1; of(0, 5) -> 2; of(0, 6) -> 30; take(1, 9, 0) -> 0; of(0, 5) -> 1;"
                        + " of(0, 6) -> 42")
                .answers(other, "take(1, 10, 0) -> 0; of(0, 5) -> 2; of(0, 6) -> 30")
                .answers(five.then("take(2, 1, 0); go(35)"), "of(0, 5) -> 2; of(0, 6) -> 30");
    }

    private void calledRefusedChanged() {
        sentence("CALLED is a CAB from its place in a row for a FARE likewise (no TICKET).")
                .answers(five, "call(2, 1, 0) -> true; of(2, 0) -> 3; of(2, 4) -> 1; of(2, 5) -> NONE;"
                        + " of(2, 6) -> NONE; of(2, 7) -> 120;"
                        + "row(2, 0) -> 0; row(2, 1) -> 1; row(2, 2) -> 3; row(2, 3) -> 4; row(2, 4) -> NONE;"
                        + " go(1) -> 1; of(2, 1) -> 0")
                .answers(five, "call(0, 240, 99) -> true; of(0, 4) -> 240; row(2, 0) -> 1; call(4, 9, 0) -> true;"
                        + " of(4, 5) -> NONE; rank(2, 3) -> 3")
                .answers(city.standing(1, 1, 30), "call(0, 9, 9) -> true; rank(1, 3) -> 0; of(0, 5) -> NONE")
                .answers(city.standing(16, 2, 50), "call(15, 9, 9) -> true; row(2, 14) -> 14; row(2, 15) -> NONE;"
                        + " call(8, 9, 9) -> true; row(2, 8) -> 9; row(2, 13) -> 14; row(2, 14) -> NONE;"
                        + "call(0, 9, 9) -> true; row(2, 0) -> 1; rank(2, 3) -> 13")
                .refuses(five, "call(2, 0, 5) -> false; call(2, 241, 5) -> false; call(2, 5, -1) -> false;"
                        + " call(2, 5, 100) -> false;"
                        + "call(2, MIN, 5) -> false; call(2, MAX, 5) -> false; call(2, 5, MIN) -> false;"
                        + " call(2, 5, MAX) -> false");
        sentence("REFUSED has the first of a row, if it goes to its end.")
                .answers(five, "refuse(2) -> 0; row(2, 0) -> 1; row(2, 3) -> 4; row(2, 4) -> 0; of(0, 0) -> 2;"
                        + " of(0, 3) -> 4; rank(2, 3) -> 5")
                .answers(city.standing(2, 0, 10), "refuse(0) -> 0; row(0, 0) -> 1; row(0, 1) -> 0; refuse(0) -> 1;"
                        + " row(0, 0) -> 0")
                .answers(city.standing(1, 0, 10), "refuse(0) -> 0; row(0, 0) -> 0; rank(0, 3) -> 1")
                .answers(city.standing(3, 0, 10), "refuse(0) -> 0; row(0, 2) -> 0; of(0, 0) -> 2")
                .refuses(five, "refuse(0) -> NONE; refuse(1) -> NONE");
        sentence("CHANGED are two CABS of one row who change places.")
                .answers(five, "change(0, 4) -> true; row(2, 0) -> 4; row(2, 1) -> 1; row(2, 4) -> 0; of(0, 3) -> 4;"
                        + " of(4, 3) -> 0")
                .answers(city.standing(2, 0, 10), "change(1, 0) -> true; row(0, 0) -> 1; row(0, 1) -> 0")
                .refuses(five.standing(1, 1, 30), "change(0, 0) -> false; change(4, 4) -> false;"
                        + " change(0, 5) -> false; change(5, 0) -> false");
    }

    private void passes() {
        Run forty = city.standing(2, 0, 10).times(40, "go(1); refuse(0)");
        sentence("PASSES (the latest 40) are told with MINUTE, CAB, RANK, LAW and how many were passed:")
                .answers(city.standing(2, 0, 10), "pass(NONE, 0) -> 0; pass(0, 0) -> NONE; refuse(0) -> 0;"
                        + " pass(NONE, 0) -> 1; pass(0, 0) -> 0;"
                        + "pass(0, 1) -> 0; pass(0, 2) -> 0; pass(0, 3) -> 3; pass(0, 4) -> 1")
                .answers(forty, "pass(NONE, 0) -> 40; pass(0, 0) -> 1; pass(0, 1) -> 0; pass(39, 0) -> 40;"
                        + " pass(39, 1) -> 1; pass(40, 0) -> NONE")
                .answers(forty.then("go(1); change(1, 0)"), "pass(NONE, 0) -> 40; pass(0, 0) -> 2; pass(0, 1) -> 1;"
                        + " pass(38, 0) -> 40;"
                        + "pass(39, 0) -> 41; pass(39, 1) -> 1; pass(39, 2) -> 0; pass(39, 3) -> 4; pass(39, 4) -> 1;"
                        + " pass(40, 0) -> NONE")
                .answers(forty.times(40, "go(1); refuse(0)"), "pass(NONE, 0) -> 40; pass(0, 0) -> 41;"
                        + " pass(39, 0) -> 80");
    }

    private void laws() {
        Run two = city.standing(4, 2, 50).then("take(2, 2, 50); take(2, 2, 50); go(2)");
        sentence("LAW 1 by TICKET: those behind it then;")
                .answers(two, "drive(0, 2) -> true; pass(NONE, 0) -> 1; pass(0, 0) -> 2; pass(0, 1) -> 0;"
                        + " pass(0, 2) -> 2; pass(0, 3) -> 1; pass(0, 4) -> 2;"
                        + "drive(1, 2) -> true; pass(NONE, 0) -> 2; pass(1, 1) -> 1; pass(1, 4) -> 2")
                .answers(two.then("call(2, 60, 0)"), "drive(0, 2) -> true; pass(0, 4) -> 1")
                .answers(two.then("take(2, 60, 0); take(2, 60, 0)"), "drive(0, 2) -> true; of(0, 5) -> NONE;"
                        + " drive(1, 2) -> true; of(1, 5) -> NONE; pass(NONE, 0) -> 0");
        sentence("2 CALLED: those who were ahead of it;")
                .answers(five.then("go(3)"), "call(4, 9, 9) -> true; pass(0, 0) -> 3; pass(0, 1) -> 4;"
                        + " pass(0, 2) -> 2; pass(0, 3) -> 2; pass(0, 4) -> 4")
                .answers(five, "call(1, 9, 9) -> true; pass(NONE, 0) -> 1; pass(0, 4) -> 1")
                .answers(five, "call(0, 9, 9) -> true; pass(NONE, 0) -> 0; pass(0, 0) -> NONE");
        sentence("3 REFUSED: those who passed it (all others);")
                .answers(five.then("go(3)"), "refuse(2) -> 0; pass(0, 0) -> 3; pass(0, 1) -> 0; pass(0, 2) -> 2;"
                        + " pass(0, 3) -> 3; pass(0, 4) -> 4")
                .answers(city.standing(16, 2, 50), "refuse(2) -> 0; pass(0, 4) -> 15")
                .answers(city.standing(2, 0, 10), "refuse(0) -> 0; pass(0, 4) -> 1")
                .answers(city.standing(1, 0, 10), "refuse(0) -> 0; pass(NONE, 0) -> 0");
        sentence("4 CHANGED: how many places both were apart (of the one told first).")
                .answers(five.then("go(3)"), "change(0, 4) -> true; pass(0, 0) -> 3; pass(0, 1) -> 0;"
                        + " pass(0, 2) -> 2; pass(0, 3) -> 4; pass(0, 4) -> 4")
                .answers(five, "change(4, 0) -> true; pass(NONE, 0) -> 1; pass(0, 1) -> 4; pass(0, 4) -> 4")
                .answers(five, "change(2, 1) -> true; pass(0, 1) -> 2; pass(0, 4) -> 1");
        sentence("None is told of 0.")
                .answers(city.standing(1, 0, 10), "refuse(0) -> 0; call(0, 9, 9) -> true; pass(NONE, 0) -> 0;"
                        + " pass(0, 0) -> NONE")
                .answers(city.standing(1, 0, 10).then("take(0, 9, 10); go(9)"), "drive(0, 0) -> true;"
                        + " of(0, 5) -> NONE; pass(NONE, 0) -> 0")
                .answers(city.standing(2, 0, 10).then("take(0, 9, 10); go(9)"), "drive(0, 0) -> true;"
                        + " of(0, 5) -> NONE; pass(NONE, 0) -> 1")
                .answers(city.standing(2, 0, 10), "refuse(0) -> 0; pass(NONE, 0) -> 1; call(1, 9, 9) -> true;"
                        + " pass(NONE, 0) -> 1")
                .answers(five, "take(2, 9, 9) -> 0; pass(NONE, 0) -> 0");
    }

    private void minutes() {
        Run near = city.then("cab(0, 49); cab(0, 50)");
        sentence("In each MINUTE that goes by, those who STAND have one more MINUTE WAITED;")
                .answers(near.then("drive(0, 2); drive(1, 2)"), "of(1, 8) -> 0; go(1) -> 1; of(0, 0) -> 2;"
                        + " of(0, 8) -> 0; of(1, 8) -> 1; go(1) -> 2;"
                        + "of(0, 8) -> 1; of(1, 8) -> 2; go(300) -> 302; of(0, 8) -> 301; of(1, 8) -> 302")
                .answers(near.then("drive(1, 2); go(2); take(2, 3, 50); go(3)"), "of(1, 0) -> 0; of(1, 8) -> 2;"
                        + " go(5) -> 10; of(1, 8) -> 2; drive(1, 2) -> true;"
                        + "go(1) -> 11; of(1, 8) -> 3; of(0, 8) -> 0");
        Run both = city.then("cab(0, 31); cab(0, 29); cab(0, 51); cab(0, 49); cab(0, 52); drive(3, 2); drive(2, 2);"
                + " drive(1, 1); drive(0, 1)");
        sentence("then those whose time is over come, in the order of their numbers.")
                .answers(both, "go(1) -> 1; of(0, 0) -> 2; of(1, 0) -> 0; of(1, 1) -> 30; row(2, 0) -> 2;"
                        + " row(2, 1) -> 3")
                .answers(both.then("drive(4, 2)"), "go(1) -> 1; of(4, 0) -> 1; go(1) -> 2; of(4, 0) -> 2;"
                        + " of(4, 3) -> 2; row(2, 0) -> 2")
                .answers(both, "go(1) -> 1; of(0, 8) -> 0; of(2, 8) -> 0; go(1) -> 2; of(0, 8) -> 1");
    }
}
