/** Promises 1 to 18. */
final class EdgesOfPromises {
    private static final String BLANKS = "feed(538976288, 538976288, 538976288, 538976288, 538976288)";
    private static final String TEXT = "rank a 10 2 1;rank b 30 1 0;rank c 50 9 9;fare 100 20 2 5;short 10 30;";

    private final Run none = Run.onNew();
    private final Run city = Run.inCity(TEXT);
    /** CAB 0 is EMPTY, 1 DRIVES, 2 and 3 STAND at RANK 2, 4 is BUSY. */
    private final Run five = city.then("cab(0, 20); cab(0, 40); drive(1, 0); cab(0, 50); cab(0, 50); cab(0, 50);"
            + " drive(4, 2); take(2, 20, 60)",
            "drive(2, 2); drive(3, 2)");
    private final Edges edges;

    private EdgesOfPromises(Edges edges) {
        this.edges = edges;
    }

    static void all(Edges edges) {
        EdgesOfPromises part = new EdgesOfPromises(edges);
        part.newObject();
        part.feed();
        part.end();
        part.faultAndCity();
        part.rank();
        part.may();
        part.price();
        part.cab();
        part.of();
        part.ofTicketsAndMore();
        part.drive();
        part.row();
        part.take();
        part.call();
        part.refuseAndChange();
        part.go();
        part.pass();
    }

    private Edges promise(int number, String words) {
        return edges.sentence("Promise " + number, words);
    }

    private void newObject() {
        promise(1, "No CITY.")
                .answers(none, "count(0) -> 0; count(1) -> 0; count(2) -> 0; count(3) -> 0; count(4) -> 0;"
                        + " count(5) -> 0; count(6) -> 0; count(7) -> 0; fault() -> 0;"
                        + "pass(NONE, 0) -> 0; rings() -> 0; turn() -> 0")
                .refuses(none, "city() -> NONE; rank(0, 0) -> NONE; may(0, 0, 0) -> NONE; price(1, 0) -> NONE;"
                        + " cab(0, 0) -> NONE; of(0, 0) -> NONE; drive(0, 0) -> false;"
                        + "row(0, 0) -> NONE; take(0, 1, 0) -> NONE; call(0, 1, 0) -> false; refuse(0) -> NONE;"
                        + " change(0, 1) -> false; go(1) -> NONE; pass(0, 0) -> NONE")
                .refuses(none, "chance(0, 1, 1, 0) -> false; worth(0, 0, 0) -> NONE; going(0, 0, 0) -> NONE;"
                        + " thumb(0, 0, 0, 0) -> NONE; people(0, 0) -> false;"
                        + "brought(0) -> NONE; dead(0, 0) -> NONE; toLift(0, 0) -> NONE; reading(0, 0, 0) -> NONE;"
                        + " jumpers(0, 0) -> NONE; cant(0) -> NONE;"
                        + "wish(0, NONE) -> false; earned(2) -> NONE; image(0) -> false; back(0) -> false;"
                        + " end(1) -> false; count(8) -> NONE");
    }

    private void feed() {
        Run almost = none.times(24, BLANKS);
        promise(2, "Bytes come behind those of the text, of each number the highest first (20 of them):")
                // "rank a 1 1 1;fare 0 0 1 0;" and blanks
                .answers(none.then("feed(1918987883, 543236145, 540090417, 996565362, 1696608288);"
                        + " feed(807416096, 809181216, 538976288, 538976288, 538976288)"),
                        "count(5) -> 40; fault() -> NONE; city() -> 1; rank(0, 0) -> 1")
                .answers(none.then("feed(1918987883, 543236145, 540090417, 996565362, 1696608288)"), "count(5) -> 20;"
                        + " fault() -> 20")
                .answers(none.then("feed(0, 0, 0, 0, 0); end(7)", BLANKS), "count(5) -> 27; fault() -> 0")
                .answers(none.then(BLANKS, "feed(538976288, 538976288, 538976288, 538976288, 538976511)"),
                        "fault() -> 39")
                .answers(none.then("feed(538976288, 538976288, 538976288, 538976288, -16777216)"), "fault() -> 16")
                .answers(none.then("feed(MIN, 0, 0, 0, 0)"), "fault() -> 0");
        promise(2, "how many there are;")
                .answers(none, BLANKS + " -> 20;" + BLANKS + " -> 40; end(1) -> true;" + BLANKS + " -> 21;"
                        + " end(0) -> true;" + BLANKS + " -> 20")
                .answers(almost, BLANKS + " -> 500; count(5) -> 500");
        promise(2, "NONE if there would be more than 500.")
                .answers(almost, BLANKS + " -> 500")
                .refuses(almost.then(BLANKS), BLANKS + " -> NONE")
                .refuses(almost.then(BLANKS, "end(481)"), BLANKS + " -> NONE;" + "feed(0, 0, 0, 0, 0) -> NONE")
                .answers(almost.then(BLANKS, "end(480)"), BLANKS + " -> 500");
    }

    private void end() {
        promise(3, "The text has its first n bytes alone: true;")
                .answers(none.then(BLANKS), "end(20) -> true; count(5) -> 20; end(19) -> true; count(5) -> 19;"
                        + " end(0) -> true; count(5) -> 0")
                .answers(none, "end(0) -> true; count(5) -> 0")
                .answers(none.text(TEXT + "x").then("end(" + TEXT.length() + ")"), "fault() -> NONE; city() -> 3;"
                        + " end(0) -> true")
                .answers(none.text(TEXT).then("end(" + (TEXT.length() - 1) + ")"), "fault() -> " + (TEXT.length() - 1));
        promise(3, "false if it has not so many, or n is below 0.")
                .refuses(none, "end(1) -> false; end(-1) -> false; end(MAX) -> false; end(MIN) -> false")
                .refuses(none.then(BLANKS), "end(21) -> false; end(500) -> false; end(501) -> false;"
                        + " end(-1) -> false; end(MIN) -> false")
                .refuses(none.then(BLANKS, "end(7)"), "end(8) -> false; end(20) -> false")
                .refuses(none.times(25, BLANKS), "end(501) -> false; end(MAX) -> false")
                .refuses(city, "end(1) -> false; end(-1) -> false");
    }

    private void faultAndCity() {
        promise(4, "The FAULT of the text.")
                .answers(none, "fault() -> 0")
                .answers(none.text(TEXT), "fault() -> NONE; fault() -> NONE; count(5) -> " + TEXT.length() + ";"
                        + " count(0) -> 0")
                .answers(none.text(TEXT + "x"), "fault() -> " + TEXT.length()).answers(city, "fault() -> 0")
                .answers(city.text(" "), "fault() -> 1");
        promise(5, "The CITY comes of the text, which is empty then: how many RANKS;")
                .answers(none.text(TEXT), "city() -> 3; count(0) -> 3; count(5) -> 0; fault() -> 0; city() -> NONE;"
                        + " count(0) -> 3")
                .answers(five.text("rank z 9 1 1;fare 1 1 1 1;"), "city() -> 1; count(0) -> 1; count(2) -> 0;"
                        + " rank(0, 0) -> 9; rank(1, 0) -> NONE; count(5) -> 0");
        promise(5, "NONE with a FAULT (it stays).")
                .refuses(none, "city() -> NONE")
                .refuses(none.text("rank"), "city() -> NONE; fault() -> 4; count(5) -> 4")
                .refuses(five.text("rank z 9 1 1;fare 1 1 1 1;x"), "city() -> NONE; fault() -> 26; count(5) -> 27;"
                        + " count(0) -> 3")
                .refuses(five, "city() -> NONE")
                .answers(five.text("rank z 9 1 1;fare 1 1 1 1;x").then("end(26)"), "city() -> 1");
    }

    private void rank() {
        promise(6, "Of a RANK: 0 its place, 1 P, 2 F, 3 how many STAND there, 4 PEOPLE.")
                .answers(five.then("people(2, 20)"), "rank(0, 0) -> 10; rank(0, 1) -> 2; rank(0, 2) -> 1;"
                        + " rank(0, 3) -> 0; rank(0, 4) -> 0; rank(2, 0) -> 50;"
                        + "rank(2, 1) -> 9; rank(2, 2) -> 9; rank(2, 3) -> 2; rank(2, 4) -> 20")
                .answers(city.standing(16, 2, 50), "rank(2, 3) -> 16");
        promise(6, "NONE for others, or if there is none such.")
                .refuses(five, "rank(0, -1) -> NONE; rank(0, 5) -> NONE; rank(0, MIN) -> NONE; rank(0, MAX) -> NONE;"
                        + " rank(-1, 0) -> NONE; rank(3, 0) -> NONE;"
                        + "rank(6, 0) -> NONE; rank(MIN, 0) -> NONE; rank(MAX, 0) -> NONE; rank(3, 4) -> NONE")
                .refuses(none, "rank(0, 0) -> NONE; rank(-1, 0) -> NONE")
                .answers(city, "rank(2, 0) -> 50; rank(2, 4) -> 0");
    }

    private void may() {
        Run law = Run.inCity("rank a 10 2 1;rank b 30 1 0;fare 1 1 1 1;let a 0 0 0;let a 3 23 23;");
        promise(7, "Whether plates of a ZONE MAY stand at a RANK in an hour (0 .. 23): 1, else 0;")
                .answers(law, "may(0, 0, 0) -> 1; may(0, 0, 1) -> 0; may(0, 0, 23) -> 0; may(0, 3, 23) -> 1;"
                        + " may(0, 3, 22) -> 0; may(0, 3, 0) -> 0;"
                        + "may(1, 0, 0) -> 1; may(1, 3, 23) -> 1");
        promise(7, "NONE if there are none such.")
                .refuses(law, "may(1, 0, -1) -> NONE; may(1, 0, 24) -> NONE; may(1, 0, MIN) -> NONE;"
                        + " may(1, 0, MAX) -> NONE; may(1, -1, 0) -> NONE; may(1, 4, 0) -> NONE;"
                        + "may(1, MIN, 0) -> NONE; may(1, MAX, 0) -> NONE; may(-1, 0, 0) -> NONE;"
                        + " may(2, 0, 0) -> NONE; may(6, 0, 0) -> NONE; may(MIN, 0, 0) -> NONE")
                .refuses(none, "may(0, 0, 0) -> NONE");
    }

    private void price() {
        promise(8, "A PRICE (minutes 1 .. 240, waited 0 .. 240);")
                .answers(city, "price(1, 0) -> 120; price(240, 0) -> 2500; price(1, 240) -> 1320;"
                        + " price(240, 240) -> 3700");
        promise(8, "NONE without a CITY, or if they can't be.")
                .refuses(none, "price(1, 0) -> NONE; price(240, 240) -> NONE")
                .refuses(city, "price(0, 0) -> NONE; price(241, 0) -> NONE; price(-1, 0) -> NONE;"
                        + " price(MIN, 0) -> NONE; price(MAX, 0) -> NONE; price(1, -1) -> NONE;"
                        + "price(1, 241) -> NONE; price(1, MIN) -> NONE; price(1, MAX) -> NONE");
    }

    private void cab() {
        Run fifteen = five.times(10, "cab(0, 1)");
        promise(9, "A CAB: its number;")
                .answers(city, "cab(0, 0) -> 0; cab(3, 99) -> 1; of(1, 1) -> 99; count(2) -> 2")
                .answers(fifteen, "cab(3, 99) -> 15; count(2) -> 16");
        promise(9, "NONE without a CITY, if it can't be, or 16 came.")
                .refuses(none, "cab(0, 0) -> NONE").refuses(none.text(TEXT), "cab(0, 0) -> NONE")
                .refuses(five, "cab(-1, 0) -> NONE; cab(4, 0) -> NONE; cab(0, -1) -> NONE; cab(0, 100) -> NONE;"
                        + " cab(MIN, MAX) -> NONE; cab(MAX, MIN) -> NONE")
                .refuses(fifteen.then("cab(0, 1)"), "cab(0, 0) -> NONE; cab(3, 99) -> NONE");
    }

    private void of() {
        promise(10, "Of a CAB: 0 0 EMPTY, 1 DRIVES, 2 STANDS, 3 BUSY;")
                .answers(five, "of(0, 0) -> 0; of(1, 0) -> 1; of(2, 0) -> 2; of(3, 0) -> 2; of(4, 0) -> 3");
        promise(10, "1 its place (NONE while it DRIVES or is BUSY; of one that STANDS the RANK's),")
                .answers(five, "of(0, 1) -> 20; of(1, 1) -> NONE; of(2, 1) -> 50; of(4, 1) -> NONE; go(30) -> 30;"
                        + " of(1, 1) -> 10; of(4, 1) -> 60");
        promise(10, "2 the RANK to which it DRIVES or at which it STANDS (NONE),")
                .answers(five, "of(0, 2) -> NONE; of(1, 2) -> 0; of(2, 2) -> 2; of(4, 2) -> NONE; go(30) -> 30;"
                        + " of(1, 2) -> 0; of(4, 2) -> NONE");
        promise(10, "3 its place in the row (NONE),")
                .answers(five, "of(0, 3) -> NONE; of(1, 3) -> NONE; of(2, 3) -> 0; of(3, 3) -> 1; of(4, 3) -> NONE;"
                        + " refuse(2) -> 2; of(2, 3) -> 1; of(3, 3) -> 0")
                .answers(city.standing(16, 2, 50), "of(0, 3) -> 0; of(15, 3) -> 15");
        promise(10, "4 the MINUTE in which it comes or is EMPTY (NONE),")
                .answers(five, "of(0, 4) -> NONE; of(1, 4) -> 30; of(2, 4) -> NONE; of(4, 4) -> 20; go(29) -> 29;"
                        + " of(1, 4) -> 30; of(4, 4) -> NONE; go(1) -> 30; of(1, 4) -> NONE");
    }

    private void ofTicketsAndMore() {
        Run one = city.standing(1, 2, 50).then("go(3); take(2, 9, 50)");
        promise(10, "5 the RANK of its TICKET (NONE), 6 till when that lasts (NONE),")
                .answers(five, "of(2, 5) -> NONE; of(2, 6) -> NONE; of(4, 5) -> NONE; of(4, 6) -> NONE")
                .answers(one, "of(0, 5) -> 2; of(0, 6) -> 33; go(9) -> 12; of(0, 5) -> 2; of(0, 6) -> 33;"
                        + " drive(0, 2) -> true; of(0, 5) -> NONE; of(0, 6) -> NONE");
        promise(10, "7 EARNED, 8 WAITED,")
                .answers(five, "of(2, 7) -> 0; of(4, 7) -> 300; of(2, 8) -> 0; go(300) -> 300; of(2, 8) -> 300;"
                        + " of(0, 8) -> 0; of(1, 8) -> 270; of(4, 8) -> 0");
        promise(10, "9 its WISH (NONE).")
                .answers(five, "of(0, 9) -> NONE; of(2, 9) -> NONE; wish(2, 0) -> true; of(2, 9) -> 0;"
                        + " wish(2, NONE) -> true; of(2, 9) -> NONE");
        promise(10, "NONE for others, or if there is none such.")
                .refuses(five, "of(0, -1) -> NONE; of(0, 10) -> NONE; of(0, MIN) -> NONE; of(0, MAX) -> NONE;"
                        + " of(-1, 0) -> NONE; of(5, 0) -> NONE; of(5, 7) -> NONE;"
                        + "of(16, 0) -> NONE; of(MIN, 0) -> NONE; of(MAX, 0) -> NONE")
                .refuses(none, "of(0, 0) -> NONE").refuses(city, "of(0, 0) -> NONE; of(0, 7) -> NONE")
                .answers(five, "of(4, 7) -> 300; of(4, 9) -> NONE");
    }

    private void drive() {
        promise(11, "A CAB that is EMPTY DRIVES to a RANK: true;")
                .answers(five, "drive(0, 0) -> true; of(0, 0) -> 1; of(0, 2) -> 0; of(0, 4) -> 10")
                .answers(five, "drive(0, 2) -> true; of(0, 4) -> 30")
                .answers(city.then("cab(0, 30)"), "drive(0, 1) -> true; of(0, 0) -> 2")
                .answers(city.standing(2, 1, 30), "of(1, 0) -> 0; drive(1, 1) -> true; of(1, 0) -> 0; of(1, 1) -> 30;"
                        + " drive(1, 0) -> true; of(1, 0) -> 1");
        promise(11, "false if there is none such, or it isn't EMPTY.")
                .refuses(five, "drive(-1, 0) -> false; drive(5, 0) -> false; drive(16, 0) -> false;"
                        + " drive(MIN, 0) -> false; drive(MAX, 0) -> false; drive(0, -1) -> false;"
                        + "drive(0, 3) -> false; drive(0, 6) -> false; drive(0, MIN) -> false; drive(0, MAX) -> false")
                .refuses(five, "drive(1, 0) -> false; drive(1, 1) -> false; drive(2, 2) -> false;"
                        + " drive(2, 0) -> false; drive(4, 0) -> false")
                .refuses(none, "drive(0, 0) -> false").refuses(city, "drive(0, 0) -> false")
                .answers(five.then("go(19)"), "drive(4, 0) -> false; go(1) -> 20; drive(4, 0) -> true");
    }

    private void row() {
        promise(12, "The k-th of the row of a RANK;")
                .answers(five, "row(2, 0) -> 2; row(2, 1) -> 3")
                .answers(city.standing(16, 2, 50), "row(2, 0) -> 0; row(2, 15) -> 15");
        promise(12, "NONE if there is none.")
                .refuses(five, "row(2, -1) -> NONE; row(2, 2) -> NONE; row(2, MIN) -> NONE; row(2, MAX) -> NONE;"
                        + " row(0, 0) -> NONE; row(-1, 0) -> NONE;"
                        + "row(3, 0) -> NONE; row(6, 0) -> NONE; row(MIN, 0) -> NONE; row(MAX, 0) -> NONE")
                .refuses(city.standing(16, 2, 50), "row(2, 16) -> NONE; row(2, 17) -> NONE; row(2, 18) -> NONE")
                .refuses(none, "row(0, 0) -> NONE")
                .answers(five.then("take(2, 99, 9)"), "row(2, 0) -> 3; row(2, 1) -> NONE; take(2, 99, 9) -> 3;"
                        + " row(2, 0) -> NONE");
    }

    private void take() {
        promise(13, "A FARE is TAKEN: the CAB;")
                .answers(five, "take(2, 1, 0) -> 2; of(2, 0) -> 3; take(2, 240, 99) -> 3; of(3, 4) -> 240;"
                        + " rank(2, 3) -> 0");
        promise(13, "NONE if nobody STANDS there, or it can't be.")
                .refuses(five, "take(0, 9, 9) -> NONE; take(1, 9, 9) -> NONE; take(-1, 9, 9) -> NONE;"
                        + " take(3, 9, 9) -> NONE; take(6, 9, 9) -> NONE; take(MIN, 9, 9) -> NONE;"
                        + "take(MAX, 9, 9) -> NONE")
                .refuses(five, "take(2, 0, 9) -> NONE; take(2, 241, 9) -> NONE; take(2, MIN, 9) -> NONE;"
                        + " take(2, MAX, 9) -> NONE; take(2, 9, -1) -> NONE; take(2, 9, 100) -> NONE;"
                        + "take(2, 9, MIN) -> NONE; take(2, 9, MAX) -> NONE")
                .refuses(five.then("take(2, 9, 9); take(2, 9, 9)"), "take(2, 9, 9) -> NONE")
                .refuses(none, "take(0, 9, 9) -> NONE");
    }

    private void call() {
        promise(14, "A CAB is CALLED: true;")
                .answers(five, "call(3, 1, 0) -> true; of(3, 4) -> 1; call(2, 240, 99) -> true; of(2, 4) -> 240;"
                        + " rank(2, 3) -> 0");
        promise(14, "false if there is none such that STANDS, or it can't be.")
                .refuses(five, "call(0, 9, 9) -> false; call(1, 9, 9) -> false; call(4, 9, 9) -> false;"
                        + " call(-1, 9, 9) -> false; call(5, 9, 9) -> false; call(16, 9, 9) -> false;"
                        + "call(MIN, 9, 9) -> false; call(MAX, 9, 9) -> false")
                .refuses(five, "call(2, 0, 9) -> false; call(2, 241, 9) -> false; call(2, MIN, 9) -> false;"
                        + " call(2, MAX, 9) -> false; call(2, 9, -1) -> false; call(2, 9, 100) -> false;"
                        + "call(2, 9, MIN) -> false; call(2, 9, MAX) -> false")
                .refuses(none, "call(0, 9, 9) -> false")
                .answers(five.then("go(29)"), "call(1, 9, 9) -> false; go(1) -> 30; call(1, 9, 9) -> true;"
                        + " call(1, 9, 9) -> false");
    }

    private void refuseAndChange() {
        promise(15, "REFUSED: the CAB;")
                .answers(five, "refuse(2) -> 2; row(2, 0) -> 3; refuse(2) -> 3; row(2, 0) -> 2")
                .answers(five.then("take(2, 9, 9)"), "refuse(2) -> 3; row(2, 0) -> 3");
        promise(15, "NONE if nobody STANDS there.")
                .refuses(five, "refuse(0) -> NONE; refuse(1) -> NONE; refuse(-1) -> NONE; refuse(3) -> NONE;"
                        + " refuse(6) -> NONE; refuse(MIN) -> NONE; refuse(MAX) -> NONE")
                .refuses(none, "refuse(0) -> NONE").answers(five, "refuse(2) -> 2")
                .refuses(five.then("call(2, 9, 9); take(2, 9, 9)"), "refuse(2) -> NONE");
        promise(16, "CHANGED: true;")
                .answers(five, "change(2, 3) -> true; row(2, 0) -> 3; row(2, 1) -> 2; change(2, 3) -> true;"
                        + " row(2, 0) -> 2");
        promise(16, "false if they aren't two of one row.")
                .refuses(five.standing(1, 1, 30), "change(2, 2) -> false; change(2, 5) -> false;"
                        + " change(5, 2) -> false; change(2, 0) -> false; change(0, 2) -> false; change(2, 1) -> false;"
                        + "change(4, 2) -> false; change(0, 0) -> false; change(0, 4) -> false;"
                        + " change(2, -1) -> false; change(-1, 2) -> false; change(2, 6) -> false;"
                        + " change(16, 2) -> false;"
                        + "change(MIN, MAX) -> false")
                .refuses(none, "change(0, 1) -> false; change(0, 0) -> false").answers(five, "change(3, 2) -> true");
    }

    private void go() {
        promise(17, "n MINUTES (1 .. 300) go by: the MINUTE then;")
                .answers(five, "go(1) -> 1; count(3) -> 1; go(300) -> 301; count(3) -> 301; of(2, 8) -> 301;"
                        + " of(1, 8) -> 271; go(1) -> 302");
        promise(17, "NONE without a CITY, or if n can't be.")
                .refuses(none, "go(1) -> NONE; go(300) -> NONE").refuses(none.text(TEXT), "go(1) -> NONE")
                .refuses(five, "go(0) -> NONE; go(301) -> NONE; go(-1) -> NONE; go(MIN) -> NONE; go(MAX) -> NONE");
    }

    private void pass() {
        Run forty = city.standing(3, 2, 50).times(40, "go(1); refuse(2)");
        promise(18, "PASSES: how many are told (k NONE, at most 40);")
                .answers(none, "pass(NONE, 0) -> 0")
                .answers(five, "pass(NONE, 0) -> 0; refuse(2) -> 2; pass(NONE, 0) -> 1; refuse(2) -> 3;"
                        + " pass(NONE, 0) -> 2")
                .answers(city.standing(2, 2, 50).times(39, "refuse(2)"), "pass(NONE, 0) -> 39; refuse(2) -> 1;"
                        + " pass(NONE, 0) -> 40; refuse(2) -> 0; pass(NONE, 0) -> 40");
        promise(18, "of the k-th (from the earliest on) 0 MINUTE, 1 CAB, 2 RANK, 3 LAW, 4 how many.")
                .answers(forty, "pass(0, 0) -> 1; pass(0, 1) -> 0; pass(0, 2) -> 2; pass(0, 3) -> 3; pass(0, 4) -> 2;"
                        + " pass(39, 0) -> 40; pass(39, 1) -> 0; pass(38, 1) -> 2")
                .answers(forty.then("call(2, 9, 9)"), "pass(0, 0) -> 2; pass(38, 0) -> 40; pass(38, 1) -> 0;"
                        + " pass(38, 3) -> 3; pass(39, 0) -> 40; pass(39, 1) -> 2;"
                        + "pass(39, 2) -> 2; pass(39, 3) -> 2; pass(39, 4) -> 1; refuse(2) -> 1; pass(0, 0) -> 3;"
                        + " pass(39, 1) -> 1; pass(39, 4) -> 1");
        promise(18, "NONE for others, or if there is none such.")
                .refuses(none, "pass(0, 0) -> NONE").refuses(five, "pass(0, 0) -> NONE")
                .refuses(five.then("refuse(2)"), "pass(1, 0) -> NONE; pass(-2, 0) -> NONE; pass(MIN, 0) -> NONE;"
                        + " pass(MAX, 0) -> NONE; pass(0, -1) -> NONE; pass(0, 5) -> NONE;"
                        + "pass(0, MIN) -> NONE; pass(0, MAX) -> NONE; pass(40, 0) -> NONE")
                .refuses(forty, "pass(40, 0) -> NONE; pass(39, 5) -> NONE; pass(39, -1) -> NONE")
                .answers(forty, "pass(39, 4) -> 2");
    }
}
