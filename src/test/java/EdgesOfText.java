/** What it is, and ==== 1 of the terms: the text of a CITY, its FAULT, MAY and PRICE. */
final class EdgesOfText {
    private static final String FARE = "fare 1 1 1 1;";
    private static final String RANK = "rank a 1 1 1;";

    private final Edges edges;

    private EdgesOfText(Edges edges) {
        this.edges = edges;
    }

    static void all(Edges edges) {
        EdgesOfText part = new EdgesOfText(edges);
        part.calls();
        part.bytes();
        part.tokens();
        part.rank();
        part.name();
        part.let();
        part.fare();
        part.shortAndCoin();
        part.faultOfTokens();
        part.faultOfCounts();
        part.faultOfEnd();
        part.nextCity();
        part.mayAndHour();
        part.price();
    }

    private Edges sentence(String words) {
        return edges.sentence("Terms", words);
    }

    private void calls() {
        edges.noBoundary("What it is", "Cabs at the rank: a city of ranks with feeders, plates by hours, meters and short"
                + " fares' tickets in a text; cabs that drive, stand, move up, take, are called, refuse and change places,"
                + " each pass told with its law;"
                + " what it is worth to stand where for how long, what rules of thumb lose;"
                + " people who wait and the least minutes to bring cabs to them;"
                + " laws of plates that cost the most way home;"
                + " a marshal's book of lines, who must have jumped; rings of wishes;"
                + " earnings, days kept and gone back to."
                + " ==== 1.");
        Run city = Run.inCity(RANK + FARE);
        Run last = city.times(511 - city.size(), "go(300)");
        edges.sentence("What it is", "An object is used for at most 512 calls after it has been made;"
                        + " what later calls answer is free.")
                .answers(last, "count(3) -> " + 300 * (511 - city.size()))
                .answers(last, "go(300) -> " + 300 * (512 - city.size()));
    }

    private void bytes() {
        String whole = RANK + " ".repeat(500 - RANK.length() - FARE.length()) + FARE;
        sentence("A CITY is a text of at most 500 bytes.")
                .city(whole, 1)
                .city(RANK + FARE, 1)
                .answers(Run.onNew().text(whole), "count(5) -> 500")
                .refuses(Run.onNew().text(whole), "feed(0, 0, 0, 0, 0) -> NONE")
                .refuses(Run.onNew().text(whole.substring(0, 481)), "feed(0, 0, 0, 0, 0) -> NONE");
    }

    private void tokens() {
        sentence("TOKENS: words of small letters,")
                .city("rank a 1 1 1;" + FARE, 1).city("rank z 1 1 1;" + FARE, 1).city("rank az 1 1 1;" + FARE, 1)
                .fault("rank ^` 1 1 1;" + FARE).fault("rank ^{ 1 1 1;" + FARE)
                .fault("rank ^A 1 1 1;" + FARE).fault("rank ^Z 1 1 1;" + FARE)
                .fault("rank a^B 1 1 1;" + FARE).fault("rank a^_ 1 1 1;" + FARE)
                .fault("rank ^\u00e1 1 1 1;" + FARE).fault("^Rank a 1 1 1;" + FARE);
        sentence("numbers of digits,")
                .city("rank a 0 1 1;" + FARE, 1).city("rank a 9 1 1;" + FARE, 1)
                .fault("rank a ^/ 1 1;" + FARE).fault("rank a ^: 1 1;" + FARE)
                .fault("rank a ^-1 1 1;" + FARE).fault("rank a ^+1 1 1;" + FARE).fault("rank a 1^.0 1 1;" + FARE);
        sentence("as long as can be,")
                .fault("^ranka 1 1 1;" + FARE).fault("^ranks a 1 1 1;" + FARE).city("rank a1 1 1;" + FARE, 1)
                .fault("rank a 1^a 1 1;" + FARE).fault("rank a ^100 1 1;" + FARE).fault("rank a 1 ^11;" + FARE)
                .answers(Run.inCity("rank a 010 1 1;" + FARE), "rank(0, 0) -> 10")
                .fault("rank a ^99999999999999999999 1 1;" + FARE).fault("rank a ^4294967296 1 1;" + FARE)
                .fault("rank a ^18446744073709551617 1 1;" + FARE);
        sentence("and ; with any blanks (32) and line ends (10) between.")
                .city("rank a1 1 1;fare1 1 1 1;", 1)
                .city(" \n\n  rank\n\na\n1 \n 1  1\n;\n \nfare\n1\n1\n1\n1\n;\n  ", 1)
                .fault("rank a 1 1 1^:" + FARE).fault("rank a 1 1 1^<" + FARE).fault("rank a 1 1 1^," + FARE);
        for (int sign : new int[] {0, 9, 11, 13, 31, 33, 127, 128, 138, 160, 255}) {
            edges.fault("rank a 1 1 1;^" + (char) sign + FARE);
        }
        sentence("It is any number of, in any order:")
                .city(RANK + FARE, 1).city(FARE + RANK, 1)
                .city("coin 5;" + FARE + "short 1 1;" + RANK + "let a 1 1 1;rank b 2 1 1;let a 2 1 1;let b 1 1 1;", 2)
                .fault("^");
    }

    private void rank() {
        sentence("rank N X P F ;")
                .city("rank a 1 1 1 ;" + FARE, 1)
                .fault("rank ^1 1 1;" + FARE).fault("rank a 1 1^;" + FARE).fault("rank a 1^;" + FARE)
                .fault("rank a^;" + FARE).fault("rank^;" + FARE).fault("rank a 1 1 1 ^1;" + FARE)
                .fault("rank a 1 1 1 ^a;" + FARE).fault("rank a ^b 1 1;" + FARE).fault("rank a 1 1 1;^;" + FARE)
                .fault("rank a 1 1 1 ^fare 1 1 1 1;")
                .fault("^bank a 1 1 1;" + FARE).fault("^rink a 1 1 1;" + FARE).fault("^ran a 1 1 1;" + FARE)
                .fault("^rant a 1 1 1;" + FARE);
        sentence("(at most 6 RANKS, numbers as they come:")
                .city(ranks(6) + FARE, 6).city(ranks(1) + FARE, 1).fault(FARE + "^")
                .fault(ranks(6) + "^rank g 60 1 1;" + FARE).fault(ranks(6) + FARE + "^rank")
                .answers(Run.inCity(ranks(6) + FARE), "rank(0, 0) -> 0; rank(1, 0) -> 10; rank(2, 0) -> 20;"
                        + "rank(3, 0) -> 30; rank(4, 0) -> 40; rank(5, 0) -> 50; rank(6, 0) -> NONE");
        lastRank();
        sentence("X its place, 0 .. 99,")
                .city("rank a 0 1 1;" + FARE, 1).city("rank a 99 1 1;" + FARE, 1).fault("rank a ^100 1 1;" + FARE)
                .answers(Run.inCity("rank a 99 1 1;rank b 0 1 1;" + FARE), "rank(0, 0) -> 99; rank(1, 0) -> 0");
        sentence("with P places, 1 .. 9,")
                .city("rank a 1 1 1;" + FARE, 1).city("rank a 1 9 1;" + FARE, 1)
                .fault("rank a 1 ^0 1;" + FARE).fault("rank a 1 ^10 1;" + FARE)
                .answers(Run.inCity("rank a 1 9 1;rank b 2 1 1;" + FARE), "rank(0, 1) -> 9; rank(1, 1) -> 1");
        sentence("and F in its FEEDER, 0 .. 9;")
                .city("rank a 1 1 0;" + FARE, 1).city("rank a 1 1 9;" + FARE, 1).fault("rank a 1 1 ^10;" + FARE)
                .answers(Run.inCity("rank a 1 1 9;rank b 2 1 0;" + FARE), "rank(0, 2) -> 9; rank(1, 2) -> 0");
        sentence("NAMES and X unlike)")
                .city("rank a 1 1 1;rank b 2 1 1;" + FARE, 2)
                .city("rank ab 1 1 1;rank a 2 1 1;rank b 3 1 1;rank abc 4 1 1;rank aa 5 1 1;" + FARE, 5)
                .fault("rank a 1 1 1;rank ^a 2 1 1;" + FARE).fault("rank a 1 1 1;rank b ^1 1 1;" + FARE)
                .fault("rank a 1 1 1;rank b ^01 1 1;" + FARE).fault("rank a 0 1 1;rank b 1 1 1;rank c ^0 1 1;" + FARE);
    }

    /** What the calls answer of the sixth RANK, which is the last one that can be. */
    private void lastRank() {
        Run six = Run.inCity(ranks(6) + FARE + "let f 0 0 9;");
        edges
                .answers(six, "chance(5, 16, 1, 5) -> true; worth(5, 0, 120) -> 240000; worth(5, 9, 120) -> 222000;"
                        + " going(50, 120, 1) -> 5; thumb(2, 0, 0, 1) -> 5;"
                        + "chance(0, 16, 1, 5) -> true; worth(0, 0, 2) -> 4000; chance(6, 1, 1, 5) -> false;"
                        + " chance(5, 1, 1, 6) -> false; worth(6, 0, 0) -> NONE")
                .answers(six.then("chance(5, 16, 1, 5)"), "worth(5, 0, 4) -> 8000; going(50, 1, 0) -> 2000;"
                        + " cab(0, 50) -> 0; drive(0, 5) -> true; going(50, 1, 0) -> 0; going(50, 2, 0) -> 2000;"
                        + "going(50, 3, 0) -> 2000; going(50, 4, 0) -> 4000")
                .answers(six.standing(1, 4, 40).then("people(5, 2)"), "rank(5, 4) -> 2; brought(0) -> 1;"
                        + " brought(1) -> 10; people(6, 1) -> false")
                .answers(six.standing(2, 5, 50).then("people(4, 2)"), "rank(5, 3) -> 2; row(5, 1) -> 1;"
                        + " brought(0) -> 2; brought(1) -> 20; refuse(5) -> 0; pass(0, 2) -> 5; take(5, 9, 9) -> 1")
                .answers(six.then("cab(0, 50); cab(1, 50)"), "may(5, 0, 9) -> 1; may(5, 1, 9) -> 0;"
                        + " may(6, 0, 0) -> NONE; dead(0, 0) -> 10; dead(0, 1) -> 0; reading(5, 0, 1) -> 1;"
                        + "reading(4, 9, 1) -> 2; cant(1) -> 0; reading(5, 9, 2) -> 3; jumpers(0, 0) -> 0;"
                        + " reading(6, 9, 0) -> NONE; drive(0, 6) -> false")
                .answers(six.standing(1, 5, 50).then("people(5, 3); image(0); take(5, 9, 9); people(5, 0)"),
                        "back(0) -> true; rank(5, 3) -> 1; rank(5, 4) -> 3; row(5, 0) -> 0");
        Run ring = six;
        int[] from = {4, 3, 2, 1, 0, 5};
        for (int cab = 0; cab < 6; cab++) {
            ring = ring.standing(1, from[cab], 10 * from[cab]).then("wish(" + cab + ", " + (from[cab] + 1) % 6 + ")");
        }
        edges
                .answers(ring, "rings() -> 63; turn() -> 6; row(5, 0) -> 0; row(4, 0) -> 1; row(3, 0) -> 2;"
                        + " row(2, 0) -> 3; row(1, 0) -> 4; row(0, 0) -> 5; of(0, 1) -> 50; wish(5, 6) -> false");
    }

    private static String ranks(int many) {
        StringBuilder text = new StringBuilder();
        for (int k = 0; k < many; k++) {
            text.append("rank ").append((char) ('a' + k)).append(' ').append(10 * k).append(" 1 1;");
        }
        return text.toString();
    }

    private void name() {
        sentence("N a NAME: a word of at most 8 letters but: rank let fare short coin;")
                .city("rank a 1 1 1;" + FARE, 1).city("rank abcdefgh 1 1 1;" + FARE, 1)
                .fault("rank ^abcdefghi 1 1 1;" + FARE).fault("rank ^7 1 1 1;" + FARE).fault("rank ^; 1 1 1;" + FARE);
        for (String word : new String[] {"rank", "let", "fare", "short", "coin"}) {
            edges.fault("rank ^" + word + " 1 1 1;" + FARE)
                    .city("rank " + word + "s 1 1 1;let " + word + "s 0 0 0;" + FARE, 1)
                    .city("rank " + word.substring(1) + " 1 1 1;" + FARE, 1)
                    .city("rank " + word.substring(0, word.length() - 1) + " 1 1 1;" + FARE, 1);
        }
    }

    private void let() {
        sentence("let N Z A B ;")
                .city(RANK + "let a 1 1 1 ;" + FARE, 1)
                .fault(RANK + "let ^1 1 1;" + FARE).fault(RANK + "let a 1 1^;" + FARE).fault(RANK + "let a 1^;" + FARE)
                .fault(RANK + "let a^;" + FARE).fault(RANK + "let^;" + FARE).fault(RANK + "let a 1 1 1 ^1;" + FARE)
                .fault(RANK + "^get a 1 1 1;" + FARE).fault(RANK + "^lets a 1 1 1;" + FARE);
        sentence("(at most 8 LETS, numbers as they come:")
                .city(RANK + "let a 1 1 1;".repeat(8) + FARE, 1).city(RANK + FARE, 1)
                .fault(RANK + "let a 1 1 1;".repeat(8) + "^let a 1 1 1;" + FARE)
                .fault(RANK + FARE + "let a 1 1 1;".repeat(8) + "^let")
                .answers(Run.inCity(RANK + "let a 1 1 1;".repeat(8) + FARE), "count(1) -> 8")
                .answers(Run.inCity("rank a 0 1 1;rank b 20 1 1;let b 1 1 1;let a 1 1 1;" + FARE).then("cab(0, 5)"),
                        "count(1) -> 2; dead(1, 0) -> 100; dead(1, 1) -> 15; dead(1, 2) -> 5; dead(1, 3) -> 5;"
                                + " dead(1, 4) -> NONE");
        sentence("plates of ZONE Z, 0 .. 3,")
                .city(RANK + "let a 0 1 1;" + FARE, 1).city(RANK + "let a 3 1 1;" + FARE, 1)
                .fault(RANK + "let a ^4 1 1;" + FARE)
                .answers(Run.inCity(RANK + "let a 0 1 1;" + FARE), "may(0, 0, 1) -> 1; may(0, 3, 1) -> 0")
                .answers(Run.inCity(RANK + "let a 3 1 1;" + FARE), "may(0, 0, 1) -> 0; may(0, 3, 1) -> 1;"
                        + " may(0, 2, 1) -> 0");
        sentence("may stand at a RANK told ahead")
                .city(RANK + "let a 1 1 1;" + FARE, 1).city(RANK + "rank b 2 1 1;let a 1 1 1;let b 1 1 1;" + FARE, 2)
                .fault("let ^a 1 1 1;" + RANK + FARE).fault(RANK + "let ^b 1 1 1;rank b 2 1 1;" + FARE);
        sentence("in hours A .. B of the day, 0 .. 23, A no greater)")
                .city(RANK + "let a 1 0 0;" + FARE, 1).city(RANK + "let a 1 23 23;" + FARE, 1)
                .city(RANK + "let a 1 0 23;" + FARE, 1).city(RANK + "let a 1 9 10;" + FARE, 1)
                .fault(RANK + "let a 1 ^24 24;" + FARE).fault(RANK + "let a 1 0 ^24;" + FARE)
                .fault(RANK + "let a 1 10 ^9;" + FARE).fault(RANK + "let a 1 1 ^0;" + FARE)
                .answers(Run.inCity(RANK + "let a 1 9 11;" + FARE),
                        "may(0, 1, 8) -> 0; may(0, 1, 9) -> 1; may(0, 1, 11) -> 1; may(0, 1, 12) -> 0")
                .answers(Run.inCity(RANK + "let a 1 0 0;let a 2 23 23;" + FARE),
                        "may(0, 1, 0) -> 1; may(0, 1, 1) -> 0; may(0, 2, 22) -> 0; may(0, 2, 23) -> 1");
    }

    private void fare() {
        sentence("fare L M S W ;")
                .city(RANK + "fare 1 1 1 1 ;", 1)
                .fault(RANK + "fare ^a 1 1 1;").fault(RANK + "fare 1 1 1^;").fault(RANK + "fare^;")
                .fault(RANK + "fare 1 1 1 1 ^1;").fault(RANK + "^care 1 1 1 1;").fault(RANK + "^farm 1 1 1 1;");
        sentence("(once: L 0 .. 999 at first,")
                .city(RANK + FARE, 1).fault(RANK + "^").fault(RANK + FARE + "^fare 1 1 1 1;")
                .city(RANK + "fare 0 1 1 1;", 1).city(RANK + "fare 999 1 1 1;", 1).fault(RANK + "fare ^1000 1 1 1;")
                .answers(Run.inCity(RANK + "fare 999 0 1 0;"), "price(1, 0) -> 999")
                .answers(Run.inCity(RANK + "fare 0 0 1 0;"), "price(1, 0) -> 0");
        sentence("M 0 .. 999 for each S, 1 .. 99, minutes, begun ones too,")
                .city(RANK + "fare 1 0 1 1;", 1).city(RANK + "fare 1 999 1 1;", 1).fault(RANK + "fare 1 ^1000 1 1;")
                .city(RANK + "fare 1 1 99 1;", 1).fault(RANK + "fare 1 1 ^0 1;").fault(RANK + "fare 1 1 ^100 1;")
                .answers(Run.inCity(RANK + "fare 0 999 99 0;"), "price(1, 0) -> 999; price(99, 0) -> 999;"
                        + "price(100, 0) -> 1998; price(198, 0) -> 1998; price(199, 0) -> 2997; price(240, 0) -> 2997")
                .answers(Run.inCity(RANK + "fare 0 7 1 0;"), "price(1, 0) -> 7; price(2, 0) -> 14;"
                        + " price(240, 0) -> 1680");
        sentence("W 0 .. 99 for each minute waited)")
                .city(RANK + "fare 1 1 1 0;", 1).city(RANK + "fare 1 1 1 99;", 1).fault(RANK + "fare 1 1 1 ^100;")
                .answers(Run.inCity(RANK + "fare 0 0 1 99;"), "price(1, 0) -> 0; price(1, 1) -> 99;"
                        + " price(1, 240) -> 23760")
                .answers(Run.inCity(RANK + "fare 0 0 1 0;"), "price(1, 240) -> 0");
    }

    private void shortAndCoin() {
        Run without = Run.inCity(RANK + FARE).standing(1, 0, 1);
        Run least = Run.inCity(RANK + FARE + "short 1 9;").standing(1, 0, 1);
        Run two = Run.inCity(RANK + FARE + "short 2 0;").standing(1, 0, 1);
        Run most = Run.inCity(RANK + FARE + "short 99 240;").standing(1, 0, 1);
        sentence("short S T ;   (once: S 1 .. 99, T 0 .. 240; 0 and 0 without)")
                .city(RANK + FARE + "short 1 0 ;", 1).city(RANK + FARE + "short 99 240;", 1)
                .fault(RANK + FARE + "short ^0 1;").fault(RANK + FARE + "short ^100 1;")
                .fault(RANK + FARE + "short 1 ^241;").fault(RANK + FARE + "short 1^;")
                .fault(RANK + FARE + "short 1 1 ^1;").fault(RANK + FARE + "short 1 1;^short 1 1;")
                .fault(RANK + FARE + "^snort 1 1;").fault(RANK + FARE + "^shore 1 1;")
                .answers(without, "take(0, 1, 1) -> 0; of(0, 5) -> NONE; of(0, 6) -> NONE")
                .answers(least, "take(0, 1, 1) -> 0; of(0, 5) -> NONE; of(0, 6) -> NONE")
                .answers(two, "take(0, 1, 1) -> 0; of(0, 5) -> 0; of(0, 6) -> 0")
                .answers(two, "take(0, 2, 1) -> 0; of(0, 5) -> NONE; of(0, 6) -> NONE")
                .answers(most, "take(0, 98, 1) -> 0; of(0, 5) -> 0; of(0, 6) -> 240")
                .answers(most, "take(0, 99, 1) -> 0; of(0, 5) -> NONE; of(0, 6) -> NONE");
        sentence("coin C ;   (once: 1 .. 50; 1 without)")
                .city(RANK + FARE + "coin 1 ;", 1).city(RANK + FARE + "coin 50;", 1)
                .fault(RANK + FARE + "coin ^0;").fault(RANK + FARE + "coin ^51;").fault(RANK + FARE + "coin^;")
                .fault(RANK + FARE + "coin 1 ^1;").fault(RANK + FARE + "coin 5;^coin 5;")
                .fault(RANK + FARE + "^join 1;").fault(RANK + FARE + "^coil 1;")
                .answers(Run.inCity(RANK + "fare 1 0 1 0;"), "price(1, 0) -> 1")
                .answers(Run.inCity(RANK + "fare 1 0 1 0;coin 1;"), "price(1, 0) -> 1")
                .answers(Run.inCity(RANK + "fare 1 0 1 0;coin 50;"), "price(1, 0) -> 50");
    }

    private void faultOfTokens() {
        sentence("The FAULT is the place (from 0 on) of the first byte of the first TOKEN that can't stand there")
                .fault("^a").fault("^;").fault("^0").fault(" ^a").fault("\n ^rankrank").fault(RANK + "^a;" + FARE)
                .fault("rank ^rank 1 1 1;let a 1 1 1;" + FARE).fault(RANK + FARE + "coin ^coin;x").city(RANK + FARE, 1)
                .fault(RANK + " ".repeat(500 - RANK.length() - 1) + "^x").fault("^" + "x".repeat(500));
        sentence("(also: a number that can't be,")
                .city("rank a 99 9 9;" + FARE, 1).fault("rank a ^100 1 1;" + FARE).fault("rank a ^00100 1 1;" + FARE)
                .fault(RANK + "fare 1 ^1000 0 100;").fault(RANK + "fare 1 1 ^0 1;");
        sentence("a NAME that is told already behind rank,")
                .city(RANK + "rank aa 2 1 1;" + FARE, 2).fault(RANK + "rank ^a 2 1 1;" + FARE)
                .fault(RANK + "rank b 2 1 1;rank ^b 3 1 1;" + FARE).fault(RANK + "rank b 2 1 1;rank ^a 3 1 1;" + FARE);
        sentence("or isn't behind let,")
                .city(RANK + "let a 1 1 1;" + FARE, 1).fault(RANK + "let ^b 1 1 1;" + FARE)
                .fault(RANK + "let ^aa 1 1 1;" + FARE).fault("rank aa 1 1 1;let ^a 1 1 1;" + FARE)
                .fault(RANK + "let ^abcdefghi 1 1 1;" + FARE).fault(RANK + "let ^rank 1 1 1;" + FARE)
                .fault(RANK + "let ^1 1 1 1;" + FARE);
        sentence("an X that is told already;")
                .city(RANK + "rank b 2 1 1;rank c 0 1 1;" + FARE, 3).fault(RANK + "rank b ^1 1 1;" + FARE)
                .fault(RANK + "rank b 2 1 1;rank c ^2 1 1;" + FARE).fault(RANK + "rank b 2 1 1;rank c ^1 1 1;" + FARE);
        sentence("or of a byte that begins no TOKEN, if that is ahead;")
                .fault("^!").fault("rank^! a 1 1 1;" + FARE).fault("rank a^! 1 1 1;" + FARE).fault("rank a 1 1 1;^!x")
                .fault("^x!").fault("rank ^abcdefghi! 1 1 1;").fault("rank a ^100! 1 1;").fault(RANK + FARE + "^!")
                .fault(RANK + "^!").fault("rank a 1 1 1^!");
    }

    private void faultOfCounts() {
        String once = FARE + "short 1 1;coin 1;";
        sentence("a 7th rank, 9th let, second fare, short, coin at their first words),")
                .city(ranks(6) + FARE, 6).fault(ranks(6) + FARE + "^rank").fault(ranks(6) + "  ^rank rank")
                .city(RANK + "let a 1 1 1;".repeat(8) + FARE, 1).fault(RANK + "let a 1 1 1;".repeat(8) + " ^let")
                .fault(RANK + "let a 1 1 1;".repeat(8) + "^let b 9 9 9;")
                .city(RANK + once, 1).fault(RANK + once + "^fare").fault(RANK + once + "^short")
                .fault(RANK + once + "^coin")
                .fault(RANK + once + "^fare 1000").fault(RANK + once + "^short 0").fault(RANK + once + "^coin 0")
                .fault(FARE + "^" + FARE).fault("short 1 1;^short 1 1;").fault("coin 1;^coin 1;");
    }

    private void faultOfEnd() {
        sentence("the length, if it ends too early, or has no RANK or no fare;")
                .fault("^").fault(" ^").fault("rank^").fault("rank a^").fault("rank a 1^").fault("rank a 1 1^")
                .fault("rank a 1 1 1^").fault("rank a 1 1 1 \n ^").fault(FARE + "rank a 1 1 1^").fault(RANK + "let^")
                .fault(RANK + FARE + "let a 1 1 1^").fault(RANK + "fare 1 1 1 1^").fault(RANK + FARE + "short 1 1^")
                .fault(RANK + FARE + "coin 1^").fault(RANK + FARE + "coin^")
                .fault(RANK + "^").fault(RANK + "let a 1 1 1;short 1 1;coin 1;\n^").fault(FARE + "^").fault(FARE + " ^")
                .fault(FARE + "short 1 1;coin 1;^").fault("coin 1;^")
                .fault(RANK + " ".repeat(500 - RANK.length()) + "^")
                .city(RANK + FARE, 1);
        sentence("NONE without.")
                .answers(Run.onNew().text(RANK + FARE), "fault() -> NONE")
                .answers(Run.onNew().text(RANK + FARE.substring(0, 12)), "fault() -> 25");
    }

    private void nextCity() {
        Run next = edges.rich().city("rank a 10 2 2;rank b 30 1 3;rank c 50 9 9;" + FARE);
        sentence("A CITY without one takes the place of the one ahead: MINUTE 0; no CABS, PASSES, PEOPLE, BOOK, images,"
                        + " all CHANCES 0.")
                .answers(edges.rich(), "count(1) -> 3; count(2) -> 10; count(3) -> 6; count(4) -> 3;"
                        + " pass(NONE, 0) -> 4;"
                        + "rank(0, 4) -> 1; worth(1, 0, 5) -> 150000; back(0) -> true; back(1) -> true;"
                        + " price(1, 0) -> 150")
                .answers(next, "count(0) -> 3; count(1) -> 0; count(2) -> 0; count(3) -> 0; count(4) -> 0;"
                        + " count(5) -> 0;"
                        + "count(6) -> 0; count(7) -> 0; pass(NONE, 0) -> 0; pass(0, 0) -> NONE; price(1, 0) -> 2")
                .answers(next, "rank(0, 3) -> 0; rank(0, 4) -> 0; rank(1, 3) -> 0; rank(1, 4) -> 0; row(0, 0) -> NONE;"
                        + "of(0, 0) -> NONE; jumpers(0, 0) -> NONE; cant(2) -> NONE; earned(0) -> NONE; rings() -> 0")
                .answers(next, "worth(0, 0, 120) -> 0; worth(1, 0, 120) -> 0; worth(2, 0, 120) -> 0;"
                        + " thumb(2, 50, 9, 1) -> 0")
                .answers(next, "may(1, 3, 5) -> 1; may(2, 0, 9) -> 1; dead(0, 1) -> NONE; brought(0) -> 0")
                .answers(next, "back(0) -> false; back(1) -> false; back(2) -> false; cab(3, 30) -> 0;"
                        + " reading(0, 0, 1) -> 1")
                .answers(next.then("cab(0, 10); drive(0, 0)"), "take(0, 1, 10) -> 0; of(0, 5) -> NONE; of(0, 7) -> 2")
                .refuses(edges.rich().text("rank a 10 2 2;" + FARE + "x"), "city() -> NONE");
        // a third CITY has nothing of the first one either
        Run third = next.city("rank d 10 2 2;rank e 30 1 3;rank f 50 9 9;" + FARE);
        edges
                .answers(third, "count(1) -> 0; may(1, 3, 5) -> 1; may(2, 0, 9) -> 1; price(1, 0) -> 2;"
                        + " dead(0, 1) -> NONE; cab(3, 30) -> 0; drive(0, 1) -> true; of(0, 8) -> 0;"
                        + "take(1, 1, 1) -> 0; of(0, 5) -> NONE; of(0, 7) -> 2")
                .answers(Run.inCity(RANK + FARE).then("chance(0, 16, 1, 0); worth(0, 0, 120)").city(RANK + FARE),
                        "worth(0, 0, 120) -> 0; going(1, 120, 0) -> 0")
                .answers(Run.inCity(RANK + "rank b 9 1 1;" + FARE).then("cab(0, 1); reading(0, 0, 1);"
                        + " reading(1, 0, 1); cant(1)").city(RANK + "rank b 9 1 1;" + FARE)
                        .then("cab(0, 1)"), "cant(1) -> NONE; reading(0, 0, 1) -> 1; cant(1) -> NONE;"
                                + " jumpers(0, 0) -> NONE; reading(1, 0, 1) -> 2; cant(1) -> 0");
    }

    private void mayAndHour() {
        Run lets = Run.inCity("rank a 1 1 1;rank b 2 1 1;let a 1 5 6;let a 1 8 8;let a 2 7 7;" + FARE);
        sentence("MAY: plates of a ZONE MAY stand at a RANK in an hour, if one of its LETS says so, or it has none.")
                .answers(lets, "may(0, 1, 4) -> 0; may(0, 1, 5) -> 1; may(0, 1, 6) -> 1; may(0, 1, 7) -> 0;"
                        + " may(0, 1, 8) -> 1;"
                        + "may(0, 1, 9) -> 0; may(0, 2, 6) -> 0; may(0, 2, 7) -> 1; may(0, 2, 8) -> 0;"
                        + " may(0, 0, 5) -> 0")
                .answers(lets, "may(1, 0, 0) -> 1; may(1, 1, 4) -> 1; may(1, 3, 23) -> 1");
        Run one = Run.inCity(RANK + FARE + "let a 0 1 1;").then("cab(0, 1)");
        Run last = Run.inCity(RANK + FARE + "let a 0 23 23;").then("cab(0, 1)").times(4, "go(300)");
        Run first = Run.inCity(RANK + FARE + "let a 0 0 0;").then("cab(0, 1)").times(4, "go(300)");
        sentence("The hour of a MINUTE: it by 60 (cut), rest by 24.")
                .answers(one.then("go(59)"), "drive(0, 0) -> true; of(0, 0) -> 0")
                .answers(one.then("go(60)"), "drive(0, 0) -> true; of(0, 0) -> 2")
                .answers(one.then("go(119)"), "drive(0, 0) -> true; of(0, 0) -> 2")
                .answers(one.then("go(120)"), "drive(0, 0) -> true; of(0, 0) -> 0")
                .answers(last.then("go(179)"), "count(3) -> 1379; drive(0, 0) -> true; of(0, 0) -> 0")
                .answers(last.then("go(180)"), "count(3) -> 1380; drive(0, 0) -> true; of(0, 0) -> 2")
                .answers(last.then("go(239)"), "count(3) -> 1439; drive(0, 0) -> true; of(0, 0) -> 2")
                .answers(last.then("go(240)"), "count(3) -> 1440; drive(0, 0) -> true; of(0, 0) -> 0")
                .answers(first.then("go(239)"), "drive(0, 0) -> true; of(0, 0) -> 0")
                .answers(first.then("go(240)"), "drive(0, 0) -> true; of(0, 0) -> 2")
                .answers(first.then("go(299)"), "count(3) -> 1499; drive(0, 0) -> true; of(0, 0) -> 2")
                .answers(first.then("go(300)"), "count(3) -> 1500; drive(0, 0) -> true; of(0, 0) -> 0")
                .answers(first.times(5, "go(300)").then("go(180)"), "count(3) -> 2880; drive(0, 0) -> true;"
                        + " of(0, 0) -> 2");
    }

    private void price() {
        sentence("A PRICE of a fare: L and M for each S minutes (begun ones, too) and W for each minute waited,"
                        + " up to the next multiple of C.")
                .answers(Run.inCity(RANK + "fare 100 10 5 3;"), "price(1, 0) -> 110; price(5, 0) -> 110;"
                        + " price(6, 0) -> 120;"
                        + "price(10, 0) -> 120; price(11, 0) -> 130; price(240, 0) -> 580; price(5, 1) -> 113;"
                        + " price(5, 2) -> 116")
                .answers(Run.inCity(RANK + "fare 100 10 5 3;coin 40;"), "price(1, 0) -> 120; price(10, 0) -> 120;"
                        + "price(11, 0) -> 160; price(26, 0) -> 160; price(30, 0) -> 160; price(31, 0) -> 200;"
                        + " price(1, 3) -> 120;"
                        + "price(1, 4) -> 160; price(10, 1) -> 160")
                .answers(Run.inCity(RANK + "fare 50 0 1 0;coin 50;"), "price(1, 0) -> 50; price(240, 240) -> 50")
                .answers(Run.inCity(RANK + "fare 51 0 1 0;coin 50;"), "price(1, 0) -> 100")
                .answers(Run.inCity(RANK + "fare 999 999 1 99;"), "price(240, 240) -> 264519");
    }
}
