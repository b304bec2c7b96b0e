/** ==== 3 of the terms: CHANCES, WORTH, GOING and THUMBS. */
final class EdgesOfWorth {
    /** PRICES: 150 up to 5 minutes, 200 up to 10, 700 for 60. */
    private final Run city = Run.inCity("rank a 10 9 9;rank b 30 9 9;fare 100 10 1 5;coin 50;");
    private final Run sure = city.then("chance(0, 16, 1, 0)");
    private final Edges edges;

    private EdgesOfWorth(Edges edges) {
        this.edges = edges;
    }

    static void all(Edges edges) {
        EdgesOfWorth part = new EdgesOfWorth(edges);
        part.chances();
        part.worth();
        part.whatFaresBring();
        part.going();
        part.thumbs();
        part.lost();
    }

    private Edges sentence(String words) {
        return edges.sentence("Terms", words);
    }

    private void chances() {
        sentence("==== 3. CHANCES of a RANK: q (0 .. 16) of sixteen that a fare comes in a minute,")
                .answers(city, "chance(0, 16, 1, 0) -> true; worth(0, 0, 1) -> 150000; chance(0, 0, 1, 0) -> true;"
                        + " worth(0, 0, 1) -> 0;"
                        + "chance(0, 1, 1, 0) -> true; worth(0, 0, 1) -> 9375; chance(0, 15, 1, 0) -> true;"
                        + " worth(0, 0, 1) -> 140625")
                .refuses(sure, "chance(0, -1, 1, 0) -> false; chance(0, 17, 1, 0) -> false;"
                        + " chance(0, MIN, 1, 0) -> false; chance(0, MAX, 1, 0) -> false");
        sentence("of so many minutes (1 .. 60), to a RANK;")
                .answers(city, "chance(0, 16, 1, 0) -> true; worth(0, 0, 0) -> 0; worth(0, 0, 1) -> 150000")
                .answers(city, "chance(1, 16, 60, 1) -> true; worth(1, 0, 59) -> 0; worth(1, 0, 60) -> 700000;"
                        + " worth(1, 0, 120) -> 1400000")
                .answers(city, "chance(1, 16, 60, 0) -> true; worth(1, 0, 60) -> 700000; worth(1, 0, 120) -> 700000")
                .refuses(sure, "chance(0, 8, 0, 0) -> false; chance(0, 8, 61, 0) -> false;"
                        + " chance(0, 8, -1, 0) -> false; chance(0, 8, MIN, 0) -> false;"
                        + "chance(0, 8, MAX, 0) -> false; chance(0, 8, 2, -1) -> false; chance(0, 8, 2, 2) -> false;"
                        + " chance(0, 8, 2, 6) -> false");
        sentence("its PRICE (nothing waited).")
                .answers(sure.standing(1, 0, 10).then("go(9)"), "worth(0, 0, 1) -> 150000; price(1, 0) -> 150;"
                        + " price(1, 9) -> 200")
                .answers(city.then("chance(0, 16, 6, 1)"), "worth(0, 0, 6) -> 200000")
                .answers(Run.inCity("rank a 10 9 9;fare 100 10 1 5;").then("chance(0, 16, 3, 0)"),
                        "worth(0, 0, 3) -> 130000; price(3, 0) -> 130; price(3, 1) -> 135");
    }

    private void worth() {
        sentence("WORTH of n ahead (0 .. 9) at a RANK with T minutes left (0 .. 120),")
                .answers(sure, "worth(0, 0, 120) -> 18000000; worth(0, 9, 120) -> 16650000; worth(0, 0, 0) -> 0;"
                        + " worth(0, 9, 0) -> 0")
                .refuses(sure, "worth(0, -1, 5) -> NONE; worth(0, 10, 5) -> NONE; worth(0, MIN, 5) -> NONE;"
                        + " worth(0, MAX, 5) -> NONE;"
                        + "worth(0, 0, -1) -> NONE; worth(0, 0, 121) -> NONE; worth(0, 0, MIN) -> NONE;"
                        + " worth(0, 0, MAX) -> NONE");
        Run penny = Run.inCity("rank a 10 9 9;fare 1 0 1 0;").then("chance(0, 1, 1, 0)");
        sentence("in thousandths (cut each time):")
                .answers(penny, "worth(0, 0, 1) -> 62; worth(0, 0, 2) -> 124; worth(0, 0, 3) -> 186;"
                        + " worth(0, 0, 4) -> 248; worth(0, 1, 1) -> 0;"
                        + "worth(0, 1, 2) -> 3; worth(0, 1, 3) -> 10; worth(0, 2, 3) -> 0");
        sentence("0 for T 0;")
                .answers(sure, "worth(0, 0, 0) -> 0; worth(0, 1, 0) -> 0; worth(1, 0, 0) -> 0;"
                        + " worth(0, 0, 1) -> 150000");
        sentence("else q times what a fare brings and 16 - q times WORTH of n with T - 1, by 16.")
                .answers(city.then("chance(0, 8, 1, 0)"), "worth(0, 0, 1) -> 75000; worth(0, 0, 2) -> 150000;"
                        + " worth(0, 1, 2) -> 37500; worth(0, 1, 3) -> 93750")
                .answers(city.then("chance(0, 0, 1, 0)"), "worth(0, 0, 120) -> 0")
                .answers(Run.inCity("rank a 10 9 9;fare 999 999 1 5;coin 50;").then("chance(0, 16, 1, 0)"),
                        "worth(0, 0, 120) -> 240000000");
    }

    private void whatFaresBring() {
        sentence("What a fare brings: with n above 0 the WORTH of n - 1 with T - 1;")
                .answers(sure, "worth(0, 1, 1) -> 0; worth(0, 1, 2) -> 150000; worth(0, 2, 2) -> 0;"
                        + " worth(0, 2, 3) -> 150000; worth(0, 9, 9) -> 0;"
                        + "worth(0, 9, 10) -> 150000; worth(0, 0, 1) -> 150000");
        sentence("with n 0 1000 times its PRICE, if its minutes are no more than T,")
                .answers(city.then("chance(0, 16, 5, 0)"), "worth(0, 0, 4) -> 0; worth(0, 0, 5) -> 150000;"
                        + " worth(0, 0, 9) -> 150000; worth(0, 0, 10) -> 300000")
                .answers(city.then("chance(0, 16, 60, 0)"), "worth(0, 0, 59) -> 0; worth(0, 0, 60) -> 700000;"
                        + " worth(0, 0, 119) -> 700000; worth(0, 0, 120) -> 1400000");
        sentence("and the GOING from that RANK's place (to which it goes) with T less its minutes left (if they are more: 0).")
                .answers(city.then("chance(0, 16, 5, 1)"), "worth(0, 0, 4) -> 0; worth(0, 0, 5) -> 150000;"
                        + " worth(0, 0, 24) -> 150000; worth(0, 0, 25) -> 150000;"
                        + "worth(0, 0, 29) -> 150000; worth(0, 0, 30) -> 300000")
                .answers(city.then("chance(0, 16, 5, 1); chance(1, 16, 1, 1)"), "worth(0, 0, 5) -> 150000;"
                        + " worth(0, 0, 6) -> 300000")
                .answers(city.then("chance(0, 16, 5, 1)").standing(1, 0, 10), "worth(0, 0, 30) -> 150000;"
                        + " worth(0, 0, 31) -> 300000");
    }

    private void going() {
        sentence("GOING from a place with T left: the greatest, over RANKS, of the WORTH there of those who STAND there now (9 at most)")
                .answers(sure, "going(10, 1, 0) -> 150000; going(10, 0, 0) -> 0")
                .answers(sure.standing(8, 0, 10), "going(10, 8, 0) -> 0; going(10, 9, 0) -> 150000")
                .answers(sure.standing(9, 0, 10), "going(10, 9, 0) -> 0; going(10, 10, 0) -> 150000")
                .answers(sure.standing(10, 0, 10), "going(10, 9, 0) -> 0; going(10, 10, 0) -> 150000;"
                        + " going(10, 11, 0) -> 150000")
                .answers(sure.standing(16, 0, 10), "going(10, 9, 0) -> 0; going(10, 10, 0) -> 150000")
                .answers(sure.then("chance(1, 16, 1, 1)").standing(3, 0, 10), "going(10, 20, 0) -> 750000;"
                        + " going(10, 20, 1) -> 0; going(30, 20, 1) -> 1");
        // who STAND now, also if they were more or fewer when it was last asked
        edges
                .answers(sure.standing(9, 0, 10), "going(10, 9, 0) -> 0; take(0, 9, 9) -> 0;"
                        + " going(10, 9, 0) -> 150000; image(0) -> true; take(0, 9, 9) -> 1; going(10, 8, 0) -> 150000;"
                + "back(0) -> true; going(10, 8, 0) -> 0; going(10, 9, 0) -> 150000")
                .answers(sure.standing(9, 0, 10), "going(10, 18, 0) -> 150000; take(0, 9, 9) -> 0;"
                        + " going(10, 18, 0) -> 300000; going(10, 17, 0) -> 150000");
        sentence("with T less the minutes to it left, of RANKS no farther than T minutes; 0 without.")
                .answers(sure, "going(20, 9, 0) -> 0; going(20, 9, 1) -> NONE; going(20, 10, 0) -> 0;"
                        + " going(20, 10, 1) -> 0; going(20, 11, 0) -> 150000")
                .answers(sure, "going(10, 0, 1) -> 0; going(11, 0, 1) -> NONE; going(9, 0, 1) -> NONE;"
                        + " going(30, 0, 1) -> 1; going(99, 68, 1) -> NONE; going(99, 69, 1) -> 1")
                .answers(sure, "going(99, 89, 0) -> 0; going(99, 90, 0) -> 150000; going(0, 10, 0) -> 0;"
                        + " going(0, 11, 0) -> 150000");
        sentence("GOES is that RANK (of like ones the least).")
                .answers(city, "going(20, 99, 1) -> 0; going(99, 99, 1) -> 0; going(99, 88, 1) -> 1;"
                        + " going(99, 68, 1) -> NONE")
                .answers(sure.then("chance(1, 16, 1, 1)"), "going(20, 30, 1) -> 0; going(19, 30, 1) -> 0;"
                        + " going(21, 30, 1) -> 1")
                .answers(city.then("chance(1, 1, 1, 1)"), "going(20, 10, 1) -> 0; going(20, 11, 1) -> 1");
    }

    private void thumbs() {
        sentence("THUMBS: 0 the nearest RANK,")
                .answers(city, "thumb(0, 20, 50, 1) -> 0; thumb(0, 21, 50, 1) -> 1; thumb(0, 0, 50, 1) -> 0;"
                        + " thumb(0, 99, 50, 1) -> 1; thumb(0, 30, 50, 1) -> 1");
        sentence("1 that with the fewest who STAND,")
                .answers(city, "thumb(1, 30, 50, 1) -> 0")
                .answers(city.standing(1, 0, 10), "thumb(1, 10, 50, 1) -> 1")
                .answers(city.standing(1, 0, 10).standing(1, 1, 30), "thumb(1, 30, 50, 1) -> 0")
                .answers(city.standing(1, 0, 10).standing(2, 1, 30), "thumb(1, 30, 50, 1) -> 0")
                .answers(city.standing(10, 0, 10).standing(6, 1, 30), "thumb(1, 10, 50, 1) -> 1");
        sentence("2 that with the greatest q")
                .answers(city, "thumb(2, 30, 50, 1) -> 0; chance(1, 1, 60, 0) -> true; thumb(2, 10, 50, 1) -> 1;"
                        + " chance(0, 1, 1, 0) -> true;"
                        + "thumb(2, 30, 50, 1) -> 0; chance(1, 16, 60, 0) -> true; chance(0, 15, 1, 0) -> true;"
                        + " thumb(2, 10, 50, 1) -> 1");
        Run law = Run.inCity("rank a 10 1 0;rank b 30 1 0;fare 100 10 1 5;let b 3 23 23;");
        sentence("(of like ones the least; plates, room and T aside):")
                .answers(law, "thumb(0, 30, 0, 1) -> 1; thumb(0, 29, 0, 1) -> 1; thumb(0, 20, 0, 1) -> 0;"
                        + " thumb(1, 99, 0, 1) -> 0; thumb(2, 99, 0, 1) -> 0")
                .answers(law.then("chance(1, 1, 60, 0)"), "thumb(2, 10, 0, 1) -> 1; thumb(2, 10, 0, 0) -> 0")
                .answers(law.standing(1, 0, 10), "thumb(0, 10, 0, 1) -> 0; thumb(1, 10, 0, 1) -> 1;"
                        + " thumb(2, 10, 0, 1) -> 0");
    }

    private void lost() {
        Run both = city.then("chance(0, 8, 1, 0); chance(1, 16, 1, 1)");
        sentence("LOST is GOING less the WORTH there (0, if it is too far).")
                .answers(both, "going(10, 21, 0) -> 1575000; thumb(2, 10, 21, 0) -> 1425000;"
                        + " going(10, 20, 0) -> 1500000; thumb(2, 10, 20, 0) -> 1500000;"
                        + "going(10, 19, 0) -> 1425000; thumb(2, 10, 19, 0) -> 1425000; thumb(0, 10, 21, 0) -> 0;"
                        + " thumb(0, 10, 0, 0) -> 0")
                .answers(both, "going(50, 19, 0) -> 0; thumb(0, 50, 19, 0) -> 0; thumb(2, 50, 19, 0) -> 0;"
                        + " thumb(2, 50, 21, 0) -> 0; thumb(1, 50, 21, 0) -> 150000");
    }
}
