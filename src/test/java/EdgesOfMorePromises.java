/** Promises 19 to 36. */
final class EdgesOfMorePromises {
    private static final String TEXT = "rank a 10 9 9;rank b 30 9 9;rank c 50 9 9;fare 100 10 1 5;coin 50;"
            + "let c 1 0 11;let c 2 12 23;";

    private final Run none = Run.onNew();
    private final Run city = Run.inCity(TEXT);
    private final Run sure = city.then("chance(0, 16, 1, 0)");
    private final Run two = city.standing(1, 0, 10).standing(1, 1, 30);
    private final Run sixteen = city.times(16, "cab(0, 0)");
    private final Edges edges;

    private EdgesOfMorePromises(Edges edges) {
        this.edges = edges;
    }

    static void all(Edges edges) {
        EdgesOfMorePromises part = new EdgesOfMorePromises(edges);
        part.chance();
        part.worth();
        part.going();
        part.thumb();
        part.people();
        part.brought();
        part.dead();
        part.toLift();
        part.reading();
        part.readingRefused();
        part.jumpers();
        part.cant();
        part.wish();
        part.ringsAndTurn();
        part.earned();
        part.imageAndBack();
        part.count();
    }

    private Edges promise(int number, String words) {
        return edges.sentence("Promise " + number, words);
    }

    private static int row(int... cabs) {
        return EdgesOfBook.row(cabs);
    }

    private void chance() {
        promise(19, "CHANCES: true;")
                .answers(city, "chance(0, 0, 1, 0) -> true; chance(2, 16, 60, 2) -> true; worth(2, 0, 60) -> 700000;"
                        + " worth(2, 0, 59) -> 0; chance(2, 1, 1, 0) -> true;"
                        + "worth(2, 0, 1) -> 9375");
        promise(19, "false if there are no such RANKS, or they can't be.")
                .refuses(sure, "chance(-1, 1, 1, 0) -> false; chance(3, 1, 1, 0) -> false;"
                        + " chance(6, 1, 1, 0) -> false; chance(MIN, 1, 1, 0) -> false; chance(MAX, 1, 1, 0) -> false;"
                        + "chance(0, 1, 1, -1) -> false; chance(0, 1, 1, 3) -> false; chance(0, 1, 1, 6) -> false;"
                        + " chance(0, 1, 1, MIN) -> false; chance(0, 1, 1, MAX) -> false")
                .refuses(sure, "chance(0, -1, 1, 0) -> false; chance(0, 17, 1, 0) -> false;"
                        + " chance(0, MIN, 1, 0) -> false; chance(0, MAX, 1, 0) -> false;"
                        + "chance(0, 1, 0, 0) -> false; chance(0, 1, 61, 0) -> false; chance(0, 1, MIN, 0) -> false;"
                        + " chance(0, 1, MAX, 0) -> false")
                .refuses(none, "chance(0, 1, 1, 0) -> false");
    }

    private void worth() {
        promise(20, "WORTH;")
                .answers(sure, "worth(0, 0, 0) -> 0; worth(0, 0, 1) -> 150000; worth(0, 9, 120) -> 16650000;"
                        + " worth(2, 0, 120) -> 0");
        promise(20, "NONE if there is no such RANK, or it can't be.")
                .refuses(sure, "worth(-1, 0, 0) -> NONE; worth(3, 0, 0) -> NONE; worth(6, 0, 0) -> NONE;"
                        + " worth(MIN, 0, 0) -> NONE; worth(MAX, 0, 0) -> NONE; worth(0, -1, 0) -> NONE;"
                        + "worth(0, 10, 0) -> NONE; worth(0, MIN, 0) -> NONE; worth(0, MAX, 0) -> NONE;"
                        + " worth(0, 0, -1) -> NONE; worth(0, 0, 121) -> NONE; worth(0, 0, MIN) -> NONE;"
                        + "worth(0, 0, MAX) -> NONE")
                .refuses(none, "worth(0, 0, 0) -> NONE");
    }

    private void going() {
        promise(21, "GOING from a place (what 0), the RANK to which it GOES (1; NONE);")
                .answers(sure, "going(0, 120, 0) -> 16500000; going(0, 120, 1) -> 0; going(99, 120, 0) -> 4650000;"
                        + " going(99, 120, 1) -> 0; going(0, 0, 0) -> 0; going(0, 0, 1) -> NONE;"
                        + "going(10, 0, 1) -> 0; going(50, 0, 1) -> 2; going(99, 48, 1) -> NONE;"
                        + " going(99, 49, 1) -> 2");
        promise(21, "NONE for others, without a CITY, or if they can't be.")
                .refuses(sure, "going(10, 5, -1) -> NONE; going(10, 5, 2) -> NONE; going(10, 5, MIN) -> NONE;"
                        + " going(10, 5, MAX) -> NONE; going(-1, 5, 0) -> NONE; going(100, 5, 0) -> NONE;"
                        + "going(MIN, 5, 0) -> NONE; going(MAX, 5, 0) -> NONE; going(10, -1, 0) -> NONE;"
                        + " going(10, 121, 0) -> NONE; going(10, MIN, 0) -> NONE; going(10, MAX, 0) -> NONE;"
                        + "going(-1, 120, 1) -> NONE; going(100, 120, 1) -> NONE; going(10, 121, 1) -> NONE;"
                        + " going(10, -1, 1) -> NONE")
                .refuses(none, "going(10, 5, 0) -> NONE; going(10, 5, 1) -> NONE");
    }

    private void thumb() {
        promise(22, "LOST by a THUMB (0 .. 2), or (what 1) its RANK;")
                .answers(sure, "thumb(0, 50, 120, 1) -> 2; thumb(0, 50, 120, 0) -> 12000000;"
                        + " thumb(1, 50, 120, 1) -> 0; thumb(1, 50, 120, 0) -> 0; thumb(2, 50, 120, 1) -> 0;"
                        + "thumb(2, 50, 120, 0) -> 0; thumb(0, 0, 0, 1) -> 0; thumb(0, 99, 0, 1) -> 2");
        promise(22, "NONE for others, without a CITY, or if they can't be.")
                .refuses(sure, "thumb(-1, 10, 5, 0) -> NONE; thumb(3, 10, 5, 0) -> NONE;"
                        + " thumb(MIN, 10, 5, 0) -> NONE; thumb(MAX, 10, 5, 1) -> NONE; thumb(0, 10, 5, -1) -> NONE;"
                        + "thumb(0, 10, 5, 2) -> NONE; thumb(0, -1, 5, 0) -> NONE; thumb(0, 100, 5, 0) -> NONE;"
                        + " thumb(0, -1, 5, 1) -> NONE; thumb(0, 100, 5, 1) -> NONE;"
                        + "thumb(0, 10, -1, 0) -> NONE; thumb(0, 10, 121, 0) -> NONE; thumb(0, 10, -1, 1) -> NONE;"
                        + " thumb(0, 10, 121, 1) -> NONE; thumb(2, MIN, MAX, 1) -> NONE")
                .refuses(none, "thumb(0, 10, 5, 0) -> NONE; thumb(0, 10, 5, 1) -> NONE");
    }

    private void people() {
        promise(23, "PEOPLE wait: true;")
                .answers(city, "people(0, 0) -> true; people(2, 20) -> true; rank(2, 4) -> 20; people(2, 1) -> true;"
                        + " rank(2, 4) -> 1; rank(0, 4) -> 0");
        promise(23, "false if there is no such RANK, or they can't be.")
                .refuses(city.then("people(0, 7)"), "people(-1, 1) -> false; people(3, 1) -> false;"
                        + " people(6, 1) -> false; people(MIN, 1) -> false; people(MAX, 1) -> false;"
                        + "people(0, -1) -> false; people(0, 21) -> false; people(0, MIN) -> false;"
                        + " people(0, MAX) -> false")
                .refuses(none, "people(0, 1) -> false; people(0, 0) -> false");
    }

    private void brought() {
        promise(24, "BROUGHT: how many (what 0), the minutes (1);")
                .answers(city, "brought(0) -> 0; brought(1) -> 0")
                .answers(two.then("people(2, 20)"), "brought(0) -> 2; brought(1) -> 60; people(2, 1) -> true;"
                        + " brought(0) -> 1; brought(1) -> 20;"
                        + "people(2, 0) -> true; brought(0) -> 0; brought(1) -> 0");
        promise(24, "NONE for others, or without a CITY.")
                .refuses(two.then("people(2, 20)"), "brought(-1) -> NONE; brought(2) -> NONE; brought(MIN) -> NONE;"
                        + " brought(MAX) -> NONE").refuses(none, "brought(0) -> NONE; brought(1) -> NONE");
    }

    private void dead() {
        Run far = Run.inCity("rank c 50 9 9;fare 1 1 1 1;let c 1 0 11;let c 2 12 23;").then("cab(1, 40)");
        promise(25, "DEAD in an hour, LETS (bits) being lifted;")
                .answers(far, "dead(0, 0) -> 10; dead(11, 0) -> 10; dead(12, 0) -> 100; dead(23, 0) -> 100;"
                        + " dead(12, 1) -> 100; dead(12, 2) -> 100; dead(12, 3) -> 10; dead(0, 1) -> 100;"
                        + " dead(0, 3) -> 10");
        promise(25, "NONE if there are none such, or it can't be.")
                .refuses(far, "dead(0, 4) -> NONE; dead(0, 5) -> NONE; dead(0, -1) -> NONE; dead(0, 256) -> NONE;"
                        + " dead(0, MIN) -> NONE; dead(0, MAX) -> NONE; dead(-1, 0) -> NONE;"
                        + "dead(24, 0) -> NONE; dead(MIN, 0) -> NONE; dead(MAX, 0) -> NONE")
                .refuses(Run.inCity("rank c 50 9 9;fare 1 1 1 1;"), "dead(0, 1) -> NONE; dead(24, 0) -> NONE")
                .answers(Run.inCity("rank c 50 9 9;fare 1 1 1 1;"), "dead(0, 0) -> 0")
                .refuses(Run.inCity("rank c 50 9 9;fare 1 1 1 1;" + "let c 1 0 0;".repeat(8)), "dead(0, 256) -> NONE;"
                        + " dead(0, -1) -> NONE")
                .answers(Run.inCity("rank c 50 9 9;fare 1 1 1 1;" + "let c 1 0 0;".repeat(8)).then("cab(0, 49)"),
                        "dead(0, 255) -> 1; dead(0, 127) -> 100")
                .refuses(none, "dead(0, 0) -> NONE; dead(23, 0) -> NONE");
    }

    private void toLift() {
        Run far = Run.inCity("rank c 50 9 9;fare 1 1 1 1;let c 1 0 11;let c 2 12 23;").then("cab(1, 40)");
        Run all = Run.inCity("rank c 50 9 9;fare 1 1 1 1;let c 1 0 11;").times(16, "cab(0, 40)");
        promise(26, "TO LIFT for at most so many in an hour;")
                .answers(far, "toLift(0, 10) -> 0; toLift(12, 99) -> 3; toLift(12, 10) -> 3; toLift(12, 100) -> 0;"
                        + " toLift(23, 2000) -> 0")
                .answers(all, "toLift(0, 2000) -> 0; toLift(0, 1600) -> 0; toLift(0, 1599) -> 1; toLift(0, 160) -> 1;"
                        + " toLift(0, 159) -> NONE");
        promise(26, "NONE if none do, without a CITY, or if it can't be (0 .. 2000).")
                .refuses(far, "toLift(0, 9) -> NONE; toLift(12, 9) -> NONE; toLift(12, 0) -> NONE")
                .refuses(far, "toLift(0, -1) -> NONE; toLift(0, 2001) -> NONE; toLift(0, MIN) -> NONE;"
                        + " toLift(0, MAX) -> NONE; toLift(-1, 2000) -> NONE; toLift(24, 2000) -> NONE;"
                        + "toLift(MIN, 2000) -> NONE; toLift(MAX, 2000) -> NONE")
                .refuses(none, "toLift(0, 0) -> NONE; toLift(0, 2000) -> NONE")
                .answers(city, "toLift(0, 0) -> 0; toLift(23, 2000) -> 0");
    }

    private void reading() {
        promise(27, "A READING (cabs: digits, 17 for each place, the first CAB the highest, of each its number and 1;")
                .answers(sixteen.then("reading(0, 0, 326)"), "reading(0, 0, " + row(2, 0, 1) + ") -> 2;"
                        + " jumpers(0, 0) -> 1; jumpers(0, 1) -> 4")
                .answers(sixteen, "reading(0, 0, 1) -> 1; reading(1, 0, 16) -> 2; reading(2, 0, 17) -> NONE;"
                        + " reading(2, 0, 18) -> NONE; reading(2, 0, 19) -> 3; cant(2) -> 0")
                .answers(sixteen, "reading(0, 0, 16) -> 1; reading(1, 0, " + row(15, 0) + ") -> 2; cant(1) -> 0")
                .answers(sixteen, "reading(0, 0, " + row(15, 14, 13, 12, 11, 10) + ") -> 1;"
                        + " reading(0, 0, 24137568) -> NONE; reading(0, 0, 24137569) -> NONE");
        promise(27, "0: nobody;")
                .answers(sixteen, "reading(0, 0, 0) -> 1; reading(0, 0, 326) -> 2; jumpers(0, 0) -> 0;"
                        + " reading(1, 0, 0) -> 3; cant(2) -> NONE")
                .answers(city, "reading(0, 0, 0) -> 1")
                .refuses(sixteen, "reading(0, 0, -1) -> NONE; reading(0, 0, MIN) -> NONE");
        promise(27, "no digit in it is 0,")
                .refuses(sixteen, "reading(0, 0, 17) -> NONE; reading(0, 0, 34) -> NONE; reading(0, 0, 289) -> NONE;"
                        + " reading(0, 0, 290) -> NONE; reading(0, 0, 306) -> NONE;"
                        + "reading(0, 0, 4913) -> NONE; reading(0, 0, " + 17 * row(1, 2, 3, 4, 5) + ") -> NONE")
                .answers(sixteen, "reading(0, 0, " + (17 * row(1, 2, 3, 4, 5) + 1) + ") -> 1");
        promise(27, "no CAB twice):")
                .refuses(sixteen, "reading(0, 0, 18) -> NONE; reading(0, 0, " + row(15, 15) + ") -> NONE;"
                        + " reading(0, 0, " + row(3, 1, 2, 3) + ") -> NONE;"
                        + "reading(0, 0, " + row(0, 1, 2, 3, 4, 0) + ") -> NONE;"
                        + " reading(0, 0, " + row(0, 1, 2, 3, 4, 4) + ") -> NONE")
                .answers(sixteen, "reading(0, 0, " + row(0, 1, 2, 3, 4, 5) + ") -> 1;"
                        + " reading(0, 0, " + row(0, 1, 2, 3, 4, 5) + ") -> 2");
        promise(27, "how many there are;")
                .answers(city, "reading(0, 0, 0) -> 1; reading(2, 0, 0) -> 2; count(4) -> 2")
                .answers(city.times(11, "reading(0, 5, 0)"), "reading(0, 5, 0) -> 12; count(4) -> 12");
    }

    private void readingRefused() {
        Run three = city.times(3, "cab(0, 0)").then("reading(0, 5, 326)");
        promise(27, "NONE if there is no such RANK, it can't be, or 12 are.")
                .refuses(three, "reading(-1, 9, 0) -> NONE; reading(3, 9, 0) -> NONE; reading(6, 9, 0) -> NONE;"
                        + " reading(MIN, 9, 0) -> NONE; reading(MAX, 9, 0) -> NONE")
                .refuses(three, "reading(1, 4, 0) -> NONE; reading(0, 4, 0) -> NONE; reading(0, -1, 0) -> NONE;"
                        + " reading(0, MIN, 0) -> NONE; reading(0, 9, 4) -> NONE;"
                        + "reading(0, 9, " + row(0, 3) + ") -> NONE; reading(0, 9, " + row(3, 0) + ") -> NONE;"
                        + " reading(0, 9, MAX) -> NONE; reading(0, 9, MIN) -> NONE")
                .answers(three, "reading(0, 5, 3) -> 2; cab(0, 0) -> 3; reading(0, 5, 4) -> 3; reading(2, MAX, 0) -> 4")
                .refuses(three.times(11, "reading(1, 9, 1)"), "reading(0, 9, 0) -> NONE; reading(1, 9, 1) -> NONE;"
                        + " reading(1, MAX, 2) -> NONE")
                .answers(three.times(10, "reading(1, 9, 1)"), "reading(1, 9, 1) -> 12")
                .refuses(none, "reading(0, 0, 0) -> NONE");
    }

    private void jumpers() {
        Run book = sixteen.then("reading(0, 0, " + row(1, 2, 3) + "); reading(1, 0, 9);"
                + " reading(0, 0, " + row(3, 1, 2) + ")");
        promise(28, "JUMPERS of a READING and the next of its RANK: 0 how many, 1 SURE ones (bits of CABS), 2 how many heaps are that few.")
                .answers(book, "jumpers(0, 0) -> 1; jumpers(0, 1) -> 8; jumpers(0, 2) -> 1")
                .answers(book.then("reading(0, 0, " + row(2, 1, 3) + ")"), "jumpers(0, 0) -> 1; jumpers(2, 0) -> 2;"
                        + " jumpers(2, 1) -> 0; jumpers(2, 2) -> 3")
                .answers(book.times(9, "reading(1, 5, 9)"), "count(4) -> 12; jumpers(10, 0) -> 0;"
                        + " jumpers(10, 2) -> 1; jumpers(11, 0) -> NONE");
        promise(28, "NONE for others, or if there is none such, or no next.")
                .refuses(book, "jumpers(0, -1) -> NONE; jumpers(0, 3) -> NONE; jumpers(0, MIN) -> NONE;"
                        + " jumpers(0, MAX) -> NONE; jumpers(-1, 0) -> NONE; jumpers(3, 0) -> NONE;"
                        + "jumpers(12, 0) -> NONE; jumpers(MIN, 0) -> NONE; jumpers(MAX, 0) -> NONE;"
                        + " jumpers(1, 0) -> NONE; jumpers(2, 0) -> NONE")
                .refuses(none, "jumpers(0, 0) -> NONE").refuses(city, "jumpers(0, 0) -> NONE")
                .refuses(book.times(9, "reading(1, 5, 9)"), "jumpers(12, 0) -> NONE; jumpers(11, 0) -> NONE");
    }

    private void cant() {
        Run book = sixteen.then("reading(0, 0, 2); reading(1, 19, 2); reading(0, 39, 2); reading(2, 70, 9)");
        promise(29, "The first READING ahead with which one CAN'T be;")
                .answers(book, "cant(1) -> 0; cant(2) -> NONE")
                .answers(sixteen.then("reading(0, 0, 2); reading(0, 0, 2); reading(1, 0, 2)"), "cant(2) -> 0")
                .answers(sixteen.times(11, "reading(0, 5, 2)").then("reading(1, 24, 2)"), "cant(11) -> 0;"
                        + " cant(10) -> NONE");
        promise(29, "NONE if there is none, or none such.")
                .refuses(book, "cant(0) -> NONE; cant(2) -> NONE; cant(3) -> NONE; cant(4) -> NONE; cant(12) -> NONE;"
                        + " cant(-1) -> NONE; cant(MIN) -> NONE; cant(MAX) -> NONE")
                .refuses(none, "cant(0) -> NONE; cant(-1) -> NONE").refuses(city, "cant(0) -> NONE");
    }

    private void wish() {
        Run more = two.then("cab(0, 20); cab(0, 20); drive(3, 0); cab(0, 10); drive(4, 0); call(4, 50, 0)");
        promise(30, "A WISH (rank NONE: none): true;")
                .answers(more, "wish(0, 1) -> true; of(0, 9) -> 1; wish(0, 2) -> true; of(0, 9) -> 2;"
                        + " wish(0, NONE) -> true; of(0, 9) -> NONE; wish(0, NONE) -> true; of(0, 9) -> NONE;"
                        + "wish(1, 0) -> true; of(1, 9) -> 0");
        promise(30, "false if there is none such, the CAB doesn't STAND, or it STANDS there.")
                .refuses(more.then("wish(0, 2)"), "wish(-1, 0) -> false; wish(5, 0) -> false; wish(16, 0) -> false;"
                        + " wish(MIN, 0) -> false; wish(MAX, 0) -> false; wish(0, 3) -> false;"
                        + "wish(0, 6) -> false; wish(0, -2) -> false; wish(0, MIN) -> false; wish(0, MAX) -> false;"
                        + " wish(5, NONE) -> false; wish(-1, NONE) -> false")
                .refuses(more, "wish(2, 0) -> false; wish(3, 0) -> false; wish(3, 1) -> false; wish(4, 1) -> false;"
                        + " wish(2, NONE) -> false; wish(3, NONE) -> false; wish(4, NONE) -> false;"
                        + "wish(0, 0) -> false; wish(1, 1) -> false")
                .refuses(none, "wish(0, 0) -> false; wish(0, NONE) -> false");
    }

    private void ringsAndTurn() {
        Run ring = two.then("wish(0, 1); wish(1, 0)");
        Run sixteenth = city.times(14, "cab(0, 0)").standing(1, 0, 10).standing(1, 1, 30).then("wish(14, 1);"
                + " wish(15, 0)");
        promise(31, "The GREATEST of RINGS, as bits of CABS (0: none).")
                .answers(none, "rings() -> 0").answers(city, "rings() -> 0")
                .answers(two.then("wish(0, 1)"), "rings() -> 0; wish(1, 2) -> true; rings() -> 0; wish(1, 0) -> true;"
                        + " rings() -> 3")
                .answers(sixteenth, "rings() -> 49152").refuses(ring, "rings() -> 3; rings() -> 3");
        promise(32, "The GREATEST of RINGS is done: how many CABS.")
                .answers(none, "turn() -> 0")
                .answers(ring, "turn() -> 2; of(0, 2) -> 1; of(1, 2) -> 0; turn() -> 0; of(0, 2) -> 1")
                .answers(sixteenth, "turn() -> 2; row(0, 0) -> 15; row(1, 0) -> 14")
                .refuses(city, "turn() -> 0").refuses(two.then("wish(0, 1)"), "turn() -> 0")
                .refuses(two.then("wish(0, 1); wish(1, 2)"), "turn() -> 0");
    }

    private void earned() {
        Run three = city.standing(3, 0, 10).then("take(0, 1, 1); take(0, 10, 1)");
        promise(33, "The greatest EARNED of CABS (what 0), the least (1), all together (2);")
                .answers(three, "earned(0) -> 200; earned(1) -> 0; earned(2) -> 350; take(0, 60, 1) -> 2;"
                        + " earned(0) -> 700; earned(1) -> 150; earned(2) -> 1050")
                .answers(city.then("cab(0, 0)"), "earned(0) -> 0; earned(1) -> 0; earned(2) -> 0");
        promise(33, "NONE for others, or without CABS.")
                .refuses(three, "earned(-1) -> NONE; earned(3) -> NONE; earned(MIN) -> NONE; earned(MAX) -> NONE")
                .refuses(city, "earned(0) -> NONE; earned(1) -> NONE; earned(2) -> NONE")
                .refuses(none, "earned(0) -> NONE; earned(1) -> NONE; earned(2) -> NONE");
    }

    private void imageAndBack() {
        promise(34, "An IMAGE comes: true;")
                .answers(city, "image(0) -> true; go(5) -> 5; image(2) -> true; go(5) -> 10; image(0) -> true;"
                        + " back(2) -> true; count(3) -> 5; back(0) -> true; count(3) -> 10");
        promise(34, "false without a CITY, or if there is no such number.")
                .refuses(none, "image(0) -> false; image(2) -> false; image(3) -> false")
                .refuses(none.text(TEXT), "image(0) -> false; back(0) -> false")
                .refuses(two.then("image(0); go(1); image(1); go(1); image(2); go(1)"), "image(-1) -> false;"
                        + " image(3) -> false; image(MIN) -> false;"
                        + " image(MAX) -> false");
        promise(35, "An IMAGE is gone back to: true;")
                .answers(two.then("image(0); go(7); take(0, 9, 9)"), "back(0) -> true; count(3) -> 0; of(0, 0) -> 2;"
                        + " row(0, 0) -> 0; take(0, 9, 9) -> 0; back(0) -> true; row(0, 0) -> 0")
                .answers(city.then("image(2); cab(0, 0)"), "back(2) -> true; count(2) -> 0; earned(0) -> NONE;"
                        + " back(2) -> true");
        promise(35, "false if there is none.")
                .refuses(none, "back(0) -> false; back(-1) -> false")
                .refuses(two, "back(0) -> false; back(1) -> false; back(2) -> false")
                .refuses(two.then("image(1); go(1)"), "back(0) -> false; back(2) -> false; back(-1) -> false;"
                        + " back(3) -> false; back(MIN) -> false; back(MAX) -> false")
                .refuses(two.then("image(0); image(1); image(2)").city(TEXT), "back(0) -> false; back(1) -> false;"
                        + " back(2) -> false")
                .answers(two.then("image(0); go(1)").text("rank"), "city() -> NONE; back(0) -> true; count(3) -> 0");
    }

    private void count() {
        promise(36, "0 RANKS, 1 LETS, 2 CABS, 3 the MINUTE, 4 READINGS, 5 bytes of the text, 6 who STAND, 7 who are EMPTY.")
                .answers(two.then("cab(0, 1); cab(0, 2); cab(0, 3); drive(4, 2); call(0, 90, 0); go(9);"
                        + " reading(0, 0, 0)").text("rank"), "count(0) -> 3; count(1) -> 2; count(2) -> 5;"
                        + "count(3) -> 9; count(4) -> 1; count(5) -> 4; count(6) -> 1; count(7) -> 2")
                .answers(none, "count(0) -> 0; count(1) -> 0; count(2) -> 0; count(3) -> 0; count(4) -> 0;"
                        + " count(5) -> 0; count(6) -> 0; count(7) -> 0")
                .answers(sixteen, "count(2) -> 16; count(6) -> 0; count(7) -> 16")
                .answers(city.standing(16, 0, 10), "count(6) -> 16; count(7) -> 0");
        promise(36, "NONE for others.")
                .refuses(none, "count(-1) -> NONE; count(8) -> NONE")
                .refuses(two, "count(-1) -> NONE; count(8) -> NONE; count(MIN) -> NONE; count(MAX) -> NONE");
    }
}
