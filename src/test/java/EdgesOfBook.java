/** ==== 4 to ==== 6 of the terms: PEOPLE, LETS to lift, the BOOK, WISHES, EARNED, images and what is refused. */
final class EdgesOfBook {
    private static final String FARE = "fare 100 20 2 5;";

    private final Run city = Run.inCity("rank a 10 9 9;rank b 30 9 9;rank c 50 9 9;" + FARE + "short 10 30;");
    private final Run sixteen = city.times(16, "cab(0, 0)");
    private final Edges edges;

    private EdgesOfBook(Edges edges) {
        this.edges = edges;
    }

    static void all(Edges edges) {
        EdgesOfBook part = new EdgesOfBook(edges);
        part.people();
        part.brought();
        part.home();
        part.toLift();
        part.readings();
        part.jumpers();
        part.cant();
        part.wishes();
        part.rings();
        part.done();
        part.earned();
        part.images();
        part.refused();
        part.refusedWithoutCity();
    }

    private Edges sentence(String words) {
        return edges.sentence("Terms", words);
    }

    /** A READING's row as its number. */
    static int row(int... cabs) {
        int digits = 0;
        for (int cab : cabs) {
            digits = digits * 17 + cab + 1;
        }
        return digits;
    }

    private void people() {
        sentence("==== 4. PEOPLE (0 .. 20) wait at RANKS.")
                .answers(city, "rank(0, 4) -> 0; people(0, 20) -> true; rank(0, 4) -> 20; rank(1, 4) -> 0;"
                        + " people(0, 0) -> true; rank(0, 4) -> 0")
                .refuses(city.then("people(0, 3)"), "people(0, -1) -> false; people(0, 21) -> false;"
                        + " people(0, MIN) -> false; people(0, MAX) -> false");
        sentence("SPARE are at a RANK the CABS that STAND there beyond its PEOPLE, WANTED the PEOPLE beyond its CABS.")
                .answers(city.standing(2, 0, 10).then("people(1, 1)"), "people(0, 3) -> true; brought(0) -> 0;"
                        + " people(0, 2) -> true; brought(0) -> 0;"
                        + "people(0, 1) -> true; brought(0) -> 1; people(0, 0) -> true; brought(0) -> 1")
                .answers(city.standing(2, 0, 10).standing(1, 1, 30), "people(1, 1) -> true; brought(0) -> 0;"
                        + " people(1, 2) -> true; brought(0) -> 1;"
                        + "people(1, 3) -> true; brought(0) -> 2; people(1, 4) -> true; brought(0) -> 2")
                .answers(city.then("cab(0, 10); cab(0, 11); drive(1, 0); people(1, 2)"), "brought(0) -> 0;"
                        + " go(1) -> 1; brought(0) -> 1; drive(0, 0) -> true; brought(0) -> 2;"
                        + "take(0, 1, 1) -> 1; brought(0) -> 1");
    }

    private void brought() {
        Run line = Run.inCity("rank a 0 9 9;rank b 40 9 9;rank c 45 9 9;rank d 99 9 9;" + FARE);
        Run four = line.standing(1, 1, 40).standing(1, 3, 99);
        sentence("BROUGHT are as many CABS as can be, from RANKS that have SPARE ones to RANKS where they are WANTED,"
                        + " with the least minutes in all.")
                .answers(line, "brought(0) -> 0; brought(1) -> 0; people(0, 20) -> true; brought(0) -> 0;"
                        + " brought(1) -> 0")
                .answers(four, "brought(0) -> 0; brought(1) -> 0; people(2, 1) -> true; brought(0) -> 1;"
                        + " brought(1) -> 5; people(0, 1) -> true;"
                        + "brought(0) -> 2; brought(1) -> 94; people(3, 1) -> true; brought(0) -> 1; brought(1) -> 5;"
                        + " people(1, 1) -> true; brought(0) -> 0; brought(1) -> 0")
                .answers(line.standing(16, 0, 0), "people(3, 20) -> true; brought(0) -> 16; brought(1) -> 1584;"
                        + " people(3, 16) -> true; brought(0) -> 16;"
                        + "people(3, 15) -> true; brought(0) -> 15; brought(1) -> 1485; people(2, 1) -> true;"
                        + " brought(0) -> 16; brought(1) -> 1530")
                .answers(line.standing(16, 3, 99), "people(0, 20) -> true; brought(0) -> 16; brought(1) -> 1584");
    }

    private void home() {
        Run law = Run.inCity("rank a 0 1 1;rank b 99 1 1;" + FARE + "let a 1 1 1;let b 1 0 0;");
        sentence("HOME in an hour of a CAB that is EMPTY: the minutes to the nearest RANK at which it MAY stand then (100 without one).")
                .answers(law.then("cab(1, 99)"), "dead(0, 0) -> 0; dead(1, 0) -> 99; dead(2, 0) -> 100")
                .answers(law.then("cab(1, 1)"), "dead(0, 0) -> 98; dead(1, 0) -> 1; dead(2, 0) -> 100")
                .answers(law.then("cab(0, 0)"), "dead(0, 0) -> 100; dead(1, 0) -> 100; dead(23, 0) -> 100")
                .answers(city.then("cab(0, 20)"), "dead(0, 0) -> 10")
                .answers(city.then("cab(0, 99)"), "dead(0, 0) -> 49")
                .answers(Run.inCity("rank a 0 1 1;rank b 99 1 1;" + FARE + "let a 0 0 0;"
                        + "let b 3 0 0;").then("cab(0, 5)"), "dead(0, 0) -> 5; dead(1, 0) -> 100; cab(3, 5) -> 1;"
                        + " dead(0, 0) -> 99;"
                        + "cab(1, 5) -> 2; cab(2, 5) -> 3; dead(0, 0) -> 299; dead(0, 1) -> 20; dead(0, 2) -> 287");
        sentence("DEAD are those of all CABS that are EMPTY, together.")
                .answers(law, "dead(2, 0) -> 0")
                .answers(law.times(16, "cab(1, 99)"), "dead(2, 0) -> 1600; dead(1, 0) -> 1584; dead(0, 0) -> 0")
                .answers(city.then("cab(0, 11); cab(0, 12); cab(0, 10); drive(2, 0)"), "dead(0, 0) -> 3;"
                        + " drive(0, 0) -> true; dead(0, 0) -> 2; go(1) -> 1;"
                        + "dead(0, 0) -> 2; take(0, 1, 16) -> 2; dead(0, 0) -> 2; go(1) -> 2; dead(0, 0) -> 8");
    }

    private void toLift() {
        Run two = Run.inCity("rank a 40 1 1;rank b 60 1 1;" + FARE + "let a 3 0 23;let a 3 0 0;"
                + "let b 3 0 23;").then("cab(0, 45)");
        sentence("TO LIFT are the fewest LETS without which")
                .answers(two, "toLift(0, 100) -> 0; toLift(0, 99) -> 4; toLift(0, 15) -> 4; toLift(0, 14) -> 3;"
                        + " toLift(0, 5) -> 3; toLift(0, 4) -> NONE")
                .answers(city.then("cab(0, 11)"), "toLift(0, 1) -> 0; toLift(0, 0) -> NONE")
                .answers(city, "toLift(0, 0) -> 0");
        sentence("(a RANK that had some but has none left lets all)")
                .answers(two, "dead(0, 0) -> 100; dead(0, 1) -> 100; dead(0, 2) -> 100; dead(0, 3) -> 5;"
                        + " dead(0, 4) -> 15; dead(0, 7) -> 5");
        sentence("DEAD is at most so many,")
                .answers(two, "toLift(0, 2000) -> 0; toLift(0, 100) -> 0; toLift(0, 99) -> 4; toLift(0, 5) -> 3;"
                        + " toLift(0, 4) -> NONE; toLift(0, 0) -> NONE");
        Run like = Run.inCity("rank a 40 1 1;rank b 60 1 1;" + FARE + "let b 3 0 23;let a 3 0 23;").then("cab(0, 50)");
        StringBuilder eight = new StringBuilder("rank a 40 1 1;" + FARE);
        for (int let = 0; let < 8; let++) {
            eight.append("let a 3 ").append(let).append(" 23;");
        }
        sentence("of like ones the least as bits.")
                .answers(like, "toLift(0, 10) -> 1; dead(0, 1) -> 10; dead(0, 2) -> 10; toLift(0, 9) -> NONE")
                .answers(like.then("cab(0, 41)"), "toLift(0, 199) -> 1; toLift(0, 29) -> 1; toLift(0, 28) -> 2;"
                        + " toLift(0, 11) -> 2; toLift(0, 10) -> NONE")
                .answers(Run.inCity(eight.toString()).then("cab(0, 45)"), "toLift(9, 100) -> 0; toLift(9, 99) -> 255;"
                        + " toLift(9, 4) -> NONE; dead(9, 254) -> 100; dead(9, 255) -> 5");
    }

    private void readings() {
        sentence("==== 5. A BOOK has at most 12 READINGS:")
                .answers(city, "count(4) -> 0; reading(0, 0, 0) -> 1; count(4) -> 1")
                .answers(sixteen.times(11, "reading(1, 7, 1)"), "reading(0, 7, 3) -> 12; count(4) -> 12")
                .refuses(sixteen.times(12, "reading(1, 7, 1)"), "reading(0, 7, 0) -> NONE; reading(0, 7, 3) -> NONE;"
                        + " reading(1, 8, 326) -> NONE");
        sentence("a RANK, a MINUTE (no less than the last)")
                .answers(city, "reading(0, 0, 0) -> 1")
                .answers(city, "reading(2, 9, 0) -> 1; reading(2, 9, 0) -> 2; reading(0, 9, 0) -> 3")
                .answers(city, "reading(0, MAX, 0) -> 1; reading(1, MAX, 0) -> 2")
                .refuses(city, "reading(0, -1, 0) -> NONE; reading(0, MIN, 0) -> NONE; reading(-1, 0, 0) -> NONE;"
                        + " reading(3, 0, 0) -> NONE")
                .refuses(city.then("reading(0, 9, 0)"), "reading(0, 8, 0) -> NONE; reading(1, 8, 0) -> NONE;"
                        + " reading(1, -1, 0) -> NONE; reading(1, MIN, 0) -> NONE")
                .answers(city.then("go(9)"), "reading(0, 3, 0) -> 1; reading(0, 99, 0) -> 2")
                .refuses(city.then("reading(0, MAX, 0)"), "reading(0, 2147483646, 0) -> NONE");
        sentence("and a row of at most 6 CABS, the first ones.")
                .answers(sixteen, "reading(0, 0, 0) -> 1; reading(0, 0, 1) -> 2;"
                        + " reading(0, 0, " + row(15, 14, 13, 12, 11, 10) + ") -> 3")
                .answers(sixteen, "reading(0, 0, " + row(0, 1, 2, 3, 4, 5) + ") -> 1;"
                        + " reading(0, 0, " + row(5, 4, 3, 2, 1, 0) + ") -> 2; jumpers(0, 0) -> 5")
                .refuses(sixteen, "reading(0, 0, " + row(0, 1, 2, 3, 4, 5, 6) + ") -> NONE;"
                        + " reading(0, 0, MAX) -> NONE; reading(0, 0, " + 17 * 17 * 17 * 17 * 17 * 17 + ") -> NONE");
    }

    private Run read(int rank, int[] first, int[] next) {
        return sixteen.then("reading(" + rank + ", 0, " + row(first) + ");"
                + " reading(" + rank + ", 1, " + row(next) + ")");
    }

    private static int[] cabs(int... cabs) {
        return cabs;
    }

    private void jumpers() {
        Run book = sixteen.then("reading(0, 0, " + row(1, 2) + "); reading(1, 0, " + row(3, 4) + ");"
                + " reading(0, 0, " + row(2, 1) + ")",
                "reading(0, 0, " + row(2, 1) + ")");
        sentence("JUMPERS between a READING and the next one of that RANK:")
                .answers(book, "jumpers(0, 0) -> 1; jumpers(1, 0) -> NONE; jumpers(2, 0) -> 0; jumpers(3, 0) -> NONE;"
                        + " jumpers(4, 0) -> NONE")
                .answers(book.then("reading(1, 0, " + row(4, 3) + ")"), "jumpers(1, 0) -> 1; jumpers(4, 0) -> NONE")
                .answers(city.then("reading(0, 0, 0)"), "jumpers(0, 0) -> NONE; reading(0, 0, 0) -> 2;"
                        + " jumpers(0, 0) -> 0");
        sentence("of the CABS that are in both, the fewest without which the others are in the same order in both;")
                .answers(read(0, cabs(), cabs()), "jumpers(0, 0) -> 0; jumpers(0, 2) -> 1")
                .answers(read(0, cabs(1, 2), cabs()), "jumpers(0, 0) -> 0; jumpers(0, 2) -> 1")
                .answers(read(0, cabs(1, 2, 3), cabs(4, 5, 6)), "jumpers(0, 0) -> 0; jumpers(0, 2) -> 1")
                .answers(read(0, cabs(1, 2, 3), cabs(9, 1, 8, 2, 7, 3)), "jumpers(0, 0) -> 0; jumpers(0, 2) -> 1")
                .answers(read(0, cabs(1, 2), cabs(2, 1)), "jumpers(0, 0) -> 1; jumpers(0, 2) -> 2")
                .answers(read(0, cabs(1, 9, 2), cabs(2, 1)), "jumpers(0, 0) -> 1; jumpers(0, 2) -> 2")
                .answers(read(0, cabs(0, 1, 2, 3, 4, 15), cabs(15, 4, 3, 2, 1, 0)), "jumpers(0, 0) -> 5;"
                        + " jumpers(0, 2) -> 6")
                .answers(read(0, cabs(0, 1, 2, 3, 4, 5), cabs(1, 0, 3, 2, 5, 4)), "jumpers(0, 0) -> 3;"
                        + " jumpers(0, 2) -> 8");
        sentence("SURE are those that are in all such heaps.")
                .answers(read(0, cabs(1, 2), cabs(1, 2)), "jumpers(0, 1) -> 0")
                .answers(read(0, cabs(), cabs()), "jumpers(0, 1) -> 0")
                .answers(read(0, cabs(1, 2), cabs(2, 1)), "jumpers(0, 1) -> 0")
                .answers(read(0, cabs(1, 2, 3), cabs(2, 3, 1)), "jumpers(0, 1) -> 2")
                .answers(read(0, cabs(1, 2, 3), cabs(3, 1, 2)), "jumpers(0, 1) -> 8")
                .answers(read(0, cabs(1, 2, 0), cabs(0, 1, 2)), "jumpers(0, 1) -> 1")
                .answers(read(0, cabs(1, 2, 15), cabs(15, 1, 2)), "jumpers(0, 1) -> 32768")
                .answers(read(0, cabs(1, 2, 3, 4), cabs(4, 2, 1, 3)), "jumpers(0, 0) -> 2; jumpers(0, 1) -> 16;"
                        + " jumpers(0, 2) -> 2");
    }

    private void cant() {
        sentence("A READING CAN'T be, if a CAB is in two RANKS' READINGS that are fewer MINUTES apart than their places;")
                .answers(sixteen.then("reading(0, 5, 2); reading(1, 24, 2)"), "cant(1) -> 0; cant(0) -> NONE")
                .answers(sixteen.then("reading(0, 5, 2); reading(1, 25, 2)"), "cant(1) -> NONE")
                .answers(sixteen.then("reading(1, 5, 2); reading(0, 24, 2)"), "cant(1) -> 0")
                .answers(sixteen.then("reading(1, 5, 2); reading(0, 25, 2)"), "cant(1) -> NONE")
                .answers(sixteen.then("reading(0, 5, 2); reading(2, 44, 2); reading(2, 45, 2)"), "cant(1) -> 0;"
                        + " cant(2) -> NONE")
                .answers(sixteen.then("reading(0, 5, 2); reading(0, 5, 2); reading(1, 5, 3)"), "cant(1) -> NONE;"
                        + " cant(2) -> NONE")
                .answers(sixteen.then("reading(0, 0, 2); reading(1, MAX, 2)"), "cant(1) -> NONE");
        sentence("told with the first READING ahead with which it can't.")
                .answers(sixteen.then("reading(0, 5, 2); reading(0, 6, 2); reading(1, 7, 2); reading(0, 8, 2)"),
                        "cant(0) -> NONE; cant(1) -> NONE; cant(2) -> 0; cant(3) -> 2")
                .answers(sixteen.then("reading(0, 5, 2); reading(0, 6, 2); reading(1, 25, 2); reading(0, 26, 3)"),
                        "cant(2) -> 1; cant(3) -> NONE");
    }

    private void wishes() {
        Run one = city.standing(1, 0, 10);
        sentence("WISHES: a CAB that STANDS wishes for a RANK (another one).")
                .answers(one, "of(0, 9) -> NONE; wish(0, 1) -> true; of(0, 9) -> 1; wish(0, 2) -> true; of(0, 9) -> 2")
                .refuses(one.then("wish(0, 2)"), "wish(0, 0) -> false; wish(0, 3) -> false; wish(0, -2) -> false;"
                        + " wish(0, MIN) -> false; wish(0, MAX) -> false")
                .refuses(city.then("cab(0, 10)"), "wish(0, 1) -> false; wish(0, NONE) -> false")
                .refuses(city.then("cab(0, 11); drive(0, 0)"), "wish(0, 1) -> false; wish(0, 0) -> false;"
                        + " wish(0, NONE) -> false")
                .refuses(one.then("take(0, 9, 9)"), "wish(0, 1) -> false; wish(0, NONE) -> false")
                .answers(one.then("wish(0, 2)"), "take(0, 9, 50) -> 0; of(0, 9) -> NONE; go(9) -> 9;"
                        + " drive(0, 2) -> true; of(0, 2) -> 2; of(0, 9) -> NONE")
                .answers(one.then("wish(0, 2)"), "call(0, 9, 50) -> true; of(0, 9) -> NONE")
                .answers(one.then("wish(0, 2)"), "refuse(0) -> 0; of(0, 9) -> 2");
    }

    private void rings() {
        Run two = city.standing(1, 0, 10).standing(1, 1, 30);
        sentence("RINGS: a heap of such CABS, as many of which leave each RANK as come to it;")
                .answers(two, "rings() -> 0; wish(0, 1) -> true; rings() -> 0; wish(1, 0) -> true; rings() -> 3;"
                        + " wish(1, 2) -> true; rings() -> 0")
                .answers(two.standing(1, 2, 50).then("wish(0, 1); wish(1, 2)"), "rings() -> 0; wish(2, 0) -> true;"
                        + " rings() -> 7; wish(2, 1) -> true; rings() -> 6")
                .answers(two.then("wish(0, 1); wish(1, 0)"), "take(1, 9, 9) -> 1; rings() -> 0");
        Run four = city.standing(2, 0, 10).standing(2, 1, 30);
        sentence("the GREATEST has the most CABS, of like ones the least as bits.")
                .answers(four.then("wish(0, 1); wish(1, 1); wish(3, 0)"), "rings() -> 9; wish(2, 0) -> true;"
                        + " rings() -> 15; wish(0, NONE) -> true; rings() -> 6")
                .answers(four.standing(1, 2, 50).then("wish(0, 1); wish(2, 0)"), "rings() -> 5; wish(3, 2) -> true;"
                        + " wish(4, 0) -> true; rings() -> 25;"
                        + "wish(1, 1) -> true; rings() -> 31")
                .answers(city.standing(8, 0, 10).standing(8, 1, 30).times(1, allWish()), "rings() -> 65535")
                // 5 goes back with 2 and 3 rather than with 0 and 4
                .answers(Run.inCity("rank a 1 9 9;rank b 2 9 9;rank c 3 9 9;"
                        + "rank d 4 9 9;" + FARE).standing(2, 0, 1).standing(1, 2, 3).standing(1, 0, 1).standing(1, 1, 2).standing(1, 3, 4)
                        .then("wish(0, 1); wish(4, 3); wish(3, 2); wish(2, 3)"), "rings() -> 0; wish(5, 0) -> true;"
                                + " rings() -> 44; wish(2, NONE) -> true; rings() -> 49");
    }

    private static String allWish() {
        StringBuilder calls = new StringBuilder();
        for (int cab = 0; cab < 16; cab++) {
            calls.append("wish(").append(cab).append(cab < 8 ? ", 1);" : ", 0);");
        }
        return calls.toString();
    }

    private void done() {
        Run seven = city.standing(3, 0, 10).standing(4, 1, 30).then("change(0, 2); wish(2, 1); wish(0, 1);"
                + " wish(4, 0); wish(6, 0); wish(1, 2)");
        sentence("Done, each takes the place of one who left there: CABS that come to a RANK, by their numbers, take the places"
                        + " that are free there, from the first on; their WISHES are gone.")
                .answers(seven, "row(0, 0) -> 2; row(0, 1) -> 1; row(0, 2) -> 0; turn() -> 4; row(0, 0) -> 4;"
                        + " row(0, 1) -> 1; row(0, 2) -> 6; row(1, 0) -> 3;"
                        + "row(1, 1) -> 0; row(1, 2) -> 5; row(1, 3) -> 2; of(2, 9) -> NONE; of(0, 9) -> NONE;"
                        + " of(4, 9) -> NONE; of(6, 9) -> NONE; of(1, 9) -> 2;"
                        + "of(0, 1) -> 30; of(0, 2) -> 1; of(0, 3) -> 1; turn() -> 0; pass(NONE, 0) -> 1")
                .answers(city.standing(1, 0, 10).then("wish(0, 1)"), "turn() -> 0; of(0, 2) -> 0; of(0, 9) -> 1")
                // who came into its row by TICKET came into the other one by a ring
                .answers(city.standing(1, 0, 10).standing(2, 1, 30).then("take(0, 2, 10); take(1, 2, 30); go(2)",
                        "drive(0, 0); wish(0, 1); wish(2, 0)"), "turn() -> 2; row(0, 0) -> 2; row(1, 0) -> 0;"
                        + "drive(1, 1) -> true; row(1, 0) -> 1; row(1, 1) -> 0")
                // who takes the place of one who came by TICKET came by a ring
                .answers(city.standing(3, 0, 10).standing(1, 1, 30).then("take(0, 2, 10); take(0, 2, 10); go(2);"
                        + " drive(0, 0); wish(0, 1); wish(3, 0)"), "turn() -> 2; row(0, 0) -> 3;"
                        + "drive(1, 0) -> true; row(0, 0) -> 1; row(0, 1) -> 3; row(0, 2) -> 2")
                .answers(city, "turn() -> 0");
    }

    private void earned() {
        Run two = city.standing(2, 0, 10);
        sentence("==== 6. EARNED by a CAB: PRICES of all it took.")
                .answers(two, "of(0, 7) -> 0; take(0, 2, 10) -> 0; of(0, 7) -> 120; of(1, 7) -> 0;"
                        + " call(1, 3, 10) -> true; of(1, 7) -> 140; go(2) -> 2;"
                        + "drive(0, 0) -> true; of(0, 7) -> 120; take(0, 240, 10) -> 0; of(0, 7) -> 2620;"
                        + " refuse(0) -> NONE; of(0, 7) -> 2620");
        sentence("A MARSHAL's fairness: the greatest and the least EARNED of CABS.")
                .answers(city, "earned(0) -> NONE; earned(1) -> NONE")
                .answers(city.then("cab(0, 0)"), "earned(0) -> 0; earned(1) -> 0")
                .answers(city.standing(1, 0, 10).then("take(0, 2, 2)"), "earned(0) -> 120; earned(1) -> 120;"
                        + " cab(0, 0) -> 1; earned(0) -> 120; earned(1) -> 0")
                .answers(two.then("take(0, 3, 2); take(0, 2, 2)"), "earned(0) -> 140; earned(1) -> 120");
    }

    private void images() {
        Run day = city.standing(3, 0, 10).then("people(1, 5); wish(0, 1); go(4); refuse(0)");
        String later = "cab(1, 1); go(9); take(0, 1, 1); change(2, 0); people(1, 0); people(2, 9); wish(0, NONE)";
        sentence("An IMAGE (0 .. 2) has MINUTE, CABS, rows, PASSES, PEOPLE and WISHES as they are then;"
                + " gone back to, they are so again.")
                .refuses(day.then("image(0); go(1); image(1); go(1); image(2)"), "image(-1) -> false;"
                        + " image(3) -> false;"
                        + " image(MIN) -> false; image(MAX) -> false")
                .refuses(day.then("image(0); go(1)"), "back(-1) -> false; back(1) -> false; back(2) -> false;"
                        + " back(3) -> false; back(MIN) -> false; back(MAX) -> false");
        for (int k = 0; k < 3; k++) {
            edges
                    .answers(day, "image(" + k + ") -> true; go(1) -> 5; back(" + k + ") -> true; count(3) -> 4;"
                            + " go(300) -> 304; back(" + k + ") -> true; count(3) -> 4")
                    .answers(day.then("image(" + k + ")", later), "count(2) -> 4; count(3) -> 13; pass(NONE, 0) -> 2;"
                            + " rank(1, 4) -> 0; of(0, 9) -> NONE;"
                            + "back(" + k + ") -> true; count(2) -> 3; count(3) -> 4; pass(NONE, 0) -> 1;"
                            + " pass(0, 0) -> 4; pass(0, 1) -> 0; rank(1, 4) -> 5;"
                            + "rank(2, 4) -> 0; of(0, 9) -> 1; row(0, 0) -> 1; row(0, 1) -> 2; row(0, 2) -> 0;"
                            + " of(1, 0) -> 2; of(1, 7) -> 0; of(1, 8) -> 4; of(3, 0) -> NONE");
        }
        edges.answers(city.then("image(0); cab(0, 0); image(0); cab(0, 0)"), "back(0) -> true; count(2) -> 1")
                .answers(day.then("image(0); go(1); refuse(0); image(1); back(0); go(5); change(0, 1)"),
                        "pass(1, 0) -> 9; pass(1, 3) -> 4; back(1) -> true; pass(NONE, 0) -> 2;"
                        + "pass(1, 0) -> 5; pass(1, 1) -> 1; pass(1, 3) -> 3; back(0) -> true; pass(NONE, 0) -> 1;"
                        + " pass(1, 0) -> NONE")
                // another CAB had its number in the meantime
                .answers(Run.inCity("rank a 10 9 9;" + FARE + "let a 2 0 23;").then("image(0); cab(2, 9); image(1);"
                        + " back(0); cab(1, 9); back(1)"), "drive(0, 0) -> true; go(1) -> 1; of(0, 0) -> 2")
                // who came into the row by TICKET then, came so again
                .answers(city.standing(3, 0, 10).then("take(0, 2, 10); take(0, 2, 10); go(2); drive(0, 0); image(0);"
                        + " take(0, 50, 10); go(50); drive(0, 0); back(0)"), "row(0, 0) -> 0;"
                        + "drive(1, 0) -> true; row(0, 0) -> 0; row(0, 1) -> 1; row(0, 2) -> 2")
                // a day with CABS of every kind, and all that can be asked of it
                .refuses(edges.rich().then("image(2)"), "cab(3, 3) -> 10; drive(7, 2) -> true; refuse(0) -> 1;"
                        + " go(100) -> 106; take(0, 3, 3) -> 0; call(1, 3, 3) -> true; people(0, 9) -> true;"
                        + "wish(8, 2) -> true; drive(2, 0) -> true; drive(5, 0) -> true; go(300) -> 406;"
                        + " refuse(0) -> 8; take(1, 1, 1) -> 3; change(2, 8) -> true; take(0, 14, 1) -> 5;"
                        + " take(0, 14, 1) -> 8;"
                        + "back(2) -> true");
    }

    /** Each call of the face, with one argument after the other one step outside of what can be. */
    private void refused() {
        Run rich = edges.rich();
        sentence("What is refused changes nothing.")
                .refuses(rich, "end(-1) -> false; end(11) -> false; end(501) -> false; city() -> NONE; go(0) -> NONE;"
                        + " go(301) -> NONE; go(-1) -> NONE")
                .refuses(rich, "rank(-1, 0) -> NONE; rank(3, 0) -> NONE; rank(0, -1) -> NONE; rank(0, 5) -> NONE;"
                        + " may(-1, 0, 0) -> NONE; may(3, 0, 0) -> NONE;"
                        + "may(0, -1, 0) -> NONE; may(0, 4, 0) -> NONE; may(0, 0, -1) -> NONE; may(0, 0, 24) -> NONE;"
                        + " price(0, 0) -> NONE; price(241, 0) -> NONE;"
                        + "price(1, -1) -> NONE; price(1, 241) -> NONE")
                .refuses(rich, "cab(-1, 0) -> NONE; cab(4, 0) -> NONE; cab(0, -1) -> NONE; cab(0, 100) -> NONE;"
                        + " of(-1, 0) -> NONE; of(10, 0) -> NONE; of(0, -1) -> NONE;"
                        + "of(0, 10) -> NONE; drive(-1, 0) -> false; drive(10, 0) -> false; drive(7, -1) -> false;"
                        + " drive(7, 3) -> false; drive(0, 1) -> false;"
                        + "drive(2, 0) -> false; drive(8, 1) -> false; row(-1, 0) -> NONE; row(3, 0) -> NONE;"
                        + " row(0, -1) -> NONE; row(0, 2) -> NONE")
                .refuses(rich, "take(-1, 5, 5) -> NONE; take(3, 5, 5) -> NONE; take(0, 0, 5) -> NONE;"
                        + " take(0, 241, 5) -> NONE; take(0, 5, -1) -> NONE;"
                        + "take(0, 5, 100) -> NONE; call(-1, 5, 5) -> false; call(10, 5, 5) -> false;"
                        + " call(7, 5, 5) -> false; call(8, 5, 5) -> false; call(5, 5, 5) -> false;"
                        + "call(0, 0, 5) -> false; call(0, 241, 5) -> false; call(0, 5, -1) -> false;"
                        + " call(0, 5, 100) -> false; refuse(-1) -> NONE; refuse(3) -> NONE")
                .refuses(rich, "change(0, 0) -> false; change(0, 3) -> false; change(0, 7) -> false;"
                        + " change(8, 0) -> false; change(0, 10) -> false; change(-1, 0) -> false;"
                        + "change(5, 7) -> false; pass(-2, 0) -> NONE; pass(4, 0) -> NONE; pass(0, -1) -> NONE;"
                        + " pass(0, 5) -> NONE")
                .refuses(rich, "chance(-1, 1, 1, 0) -> false; chance(3, 1, 1, 0) -> false;"
                        + " chance(0, -1, 1, 0) -> false; chance(0, 17, 1, 0) -> false;"
                        + "chance(0, 1, 0, 0) -> false; chance(0, 1, 61, 0) -> false; chance(0, 1, 1, -1) -> false;"
                        + " chance(0, 1, 1, 3) -> false; worth(-1, 0, 0) -> NONE;"
                        + "worth(3, 0, 0) -> NONE; worth(0, -1, 0) -> NONE; worth(0, 10, 0) -> NONE;"
                        + " worth(0, 0, -1) -> NONE; worth(0, 0, 121) -> NONE")
                .refuses(rich, "going(-1, 0, 0) -> NONE; going(100, 0, 0) -> NONE; going(0, -1, 0) -> NONE;"
                        + " going(0, 121, 0) -> NONE; going(0, 0, -1) -> NONE;"
                        + "going(0, 0, 2) -> NONE; thumb(-1, 0, 0, 0) -> NONE; thumb(3, 0, 0, 0) -> NONE;"
                        + " thumb(0, -1, 0, 0) -> NONE; thumb(0, 100, 0, 0) -> NONE;"
                        + "thumb(0, 0, -1, 0) -> NONE; thumb(0, 0, 121, 0) -> NONE; thumb(0, 0, 0, -1) -> NONE;"
                        + " thumb(0, 0, 0, 2) -> NONE")
                .refuses(rich, "people(-1, 0) -> false; people(3, 0) -> false; people(0, -1) -> false;"
                        + " people(0, 21) -> false; brought(-1) -> NONE; brought(2) -> NONE;"
                        + "dead(-1, 0) -> NONE; dead(24, 0) -> NONE; dead(0, -1) -> NONE; dead(0, 8) -> NONE;"
                        + " toLift(-1, 0) -> NONE; toLift(24, 0) -> NONE;"
                        + "toLift(0, -1) -> NONE; toLift(0, 2001) -> NONE; toLift(0, 0) -> NONE")
                .refuses(rich, "reading(-1, 9, 0) -> NONE; reading(3, 9, 0) -> NONE; reading(0, 4, 0) -> NONE;"
                        + " reading(0, 9, -1) -> NONE; reading(0, 9, 11) -> NONE;"
                        + "reading(0, 9, 17) -> NONE; reading(0, 9, 18) -> NONE; reading(0, 9, 24137569) -> NONE;"
                        + " reading(0, 9, 1765) -> NONE; jumpers(-1, 0) -> NONE;"
                        + "jumpers(3, 0) -> NONE; jumpers(2, 0) -> NONE; jumpers(0, -1) -> NONE;"
                        + " jumpers(0, 3) -> NONE; cant(-1) -> NONE; cant(3) -> NONE")
                .refuses(rich, "wish(-1, 0) -> false; wish(10, 0) -> false; wish(7, 0) -> false; wish(8, 1) -> false;"
                        + " wish(5, 0) -> false; wish(0, 0) -> false;"
                        + "wish(0, 3) -> false; wish(0, -2) -> false; earned(-1) -> NONE; earned(3) -> NONE;"
                        + " image(-1) -> false; image(3) -> false; back(-1) -> false;"
                        + "back(2) -> false; back(3) -> false; count(-1) -> NONE; count(8) -> NONE");
    }

    private void refusedWithoutCity() {
        String text = "rank a 10 2 2;rank b 30 1 3;" + FARE + "let b 0 0 23;";
        edges
                .refuses(Run.onNew().text(text), "end(-1) -> false; end(" + (text.length() + 1) + ") -> false;"
                        + " rank(0, 0) -> NONE; may(0, 0, 0) -> NONE; price(1, 0) -> NONE;"
                        + "cab(0, 0) -> NONE; of(0, 0) -> NONE; drive(0, 0) -> false; row(0, 0) -> NONE;"
                        + " take(0, 1, 0) -> NONE; call(0, 1, 0) -> false; refuse(0) -> NONE;"
                        + "change(0, 1) -> false; go(1) -> NONE; pass(0, 0) -> NONE; chance(0, 1, 1, 0) -> false;"
                        + " worth(0, 0, 0) -> NONE; going(0, 0, 0) -> NONE")
                .refuses(Run.onNew().text(text), "thumb(0, 0, 0, 0) -> NONE; people(0, 1) -> false;"
                        + " brought(0) -> NONE; dead(0, 0) -> NONE; toLift(0, 0) -> NONE;"
                        + "reading(0, 0, 0) -> NONE; jumpers(0, 0) -> NONE; cant(0) -> NONE; wish(0, NONE) -> false;"
                        + " earned(0) -> NONE; image(0) -> false; back(0) -> false");
        sentence("The constants: `NONE = -1`: There is none.")
                .value("NONE", CabRanks.NONE, -1)
                .answers(city, "refuse(0) -> NONE; row(0, 0) -> NONE; going(99, 0, 1) -> NONE");
    }
}
