/** Promises 1 to 5: a new object, feed, end, fault, city. */
public final class TextTest {
    private static final Due DUE = new Due("TextTest");
    private static final String FARE = "fare 1 1 1 1;";

    public static void main(String[] args) {
        newObject();
        feeding();
        ending();
        goodTexts();
        tokens();
        rankFaults();
        letFaults();
        onceFaults();
        tooEarly();
        counts();
        cityOfText();
        cityClears();
        DUE.close();
    }

    private static void fault(String text, int want) {
        CabRanks x = new CabRanks();
        Due.text(x, text);
        DUE.is("fault of '" + text + "'", x.fault(), want);
        DUE.is("fault of '" + text + "' again", x.fault(), want);
        DUE.is("bytes of '" + text + "'", x.count(5), text.length());
    }

    private static void newObject() {
        CabRanks x = new CabRanks();
        DUE.is("NONE", CabRanks.NONE, -1);
        for (int what = 0; what < 8; what++) {
            DUE.is("count of a new object " + what, x.count(what), 0);
        }
        DUE.is("fault", x.fault(), 0);
        DUE.is("city", x.city(), -1);
        DUE.is("rank", x.rank(0, 0), -1);
        DUE.is("may", x.may(0, 0, 0), -1);
        DUE.is("price", x.price(1, 0), -1);
        DUE.is("cab", x.cab(0, 0), -1);
        DUE.is("of", x.of(0, 0), -1);
        DUE.is("drive", x.drive(0, 0), false);
        DUE.is("row", x.row(0, 0), -1);
        DUE.is("take", x.take(0, 1, 0), -1);
        DUE.is("call", x.call(0, 1, 0), false);
        DUE.is("refuse", x.refuse(0), -1);
        DUE.is("change", x.change(0, 1), false);
        DUE.is("go", x.go(1), -1);
        DUE.is("pass", x.pass(-1, 0), 0);
        DUE.is("chance", x.chance(0, 1, 1, 0), false);
        DUE.is("worth", x.worth(0, 0, 0), -1);
        DUE.is("going", x.going(0, 0, 0), -1);
        DUE.is("thumb", x.thumb(0, 0, 0, 0), -1);
        DUE.is("people", x.people(0, 0), false);
        DUE.is("brought", x.brought(0), -1);
        DUE.is("dead", x.dead(0, 0), -1);
        DUE.is("toLift", x.toLift(0, 0), -1);
        DUE.is("reading", x.reading(0, 0, 0), -1);
        DUE.is("jumpers", x.jumpers(0, 0), -1);
        DUE.is("cant", x.cant(0), -1);
        DUE.is("wish", x.wish(0, -1), false);
        DUE.is("rings", x.rings(), 0);
        DUE.is("turn", x.turn(), 0);
        DUE.is("earned", x.earned(2), -1);
        DUE.is("image", x.image(0), false);
        DUE.is("back", x.back(0), false);
    }

    private static void feeding() {
        CabRanks x = new CabRanks();
        for (int k = 1; k <= 25; k++) {
            DUE.is("feed " + k, x.feed(0x20202020, 0x20202020, 0x20202020, 0x20202020, 0x20202020), 20 * k);
        }
        DUE.is("feed beyond 500", x.feed(0, 0, 0, 0, 0), -1);
        DUE.is("bytes", x.count(5), 500);
        DUE.is("blanks alone", x.fault(), 500);
        DUE.is("end 481", x.end(481), true);
        DUE.is("feed beyond 500 from 481", x.feed(0, 0, 0, 0, 0), -1);
        DUE.is("end 480", x.end(480), true);
        DUE.is("feed to 500", x.feed(0x20202020, 0x2020, 0x20, 0x20202020, 0x20202000), 500);
        DUE.is("the first wrong byte", x.fault(), 484);
        // the highest byte of each number comes first
        CabRanks y = new CabRanks();
        y.feed(0x72616e6b, 0x20612031, 0x20312031, 0x3b666172, 0x65203020);
        y.feed(0x30203120, 0x303b2020, 0x20202020, 0x20202020, 0x20202020);
        DUE.is("high byte first", y.fault(), -1);
        DUE.is("its city", y.city(), 1);
    }

    private static void ending() {
        CabRanks x = new CabRanks();
        x.feed(0, 0, 0, 0, 0);
        DUE.is("end -1", x.end(-1), false);
        DUE.is("end 21", x.end(21), false);
        DUE.is("end least int", x.end(Integer.MIN_VALUE), false);
        DUE.is("still 20", x.count(5), 20);
        DUE.is("end 20", x.end(20), true);
        DUE.is("end 7", x.end(7), true);
        DUE.is("7 bytes", x.count(5), 7);
        DUE.is("end 8", x.end(8), false);
        DUE.is("feed behind 7", x.feed(0, 0, 0, 0, 0), 27);
        DUE.is("end 0", x.end(0), true);
        DUE.is("none", x.count(5), 0);
    }

    private static void goodTexts() {
        fault("rank a 0 1 0;" + FARE, -1);
        fault(FARE + "rank abcdefgh 99 9 9;", -1);
        fault("\n rank\na\n 0\n1 0;fare 999 999 99 99 ; short 99 240;coin 50;\n", -1);
        fault("ranka0 1 0;" + FARE, 0);
        fault("rank a0 1 0;" + FARE, -1);
        fault("rank a 007 0001 00;fare0 0 1 0;", -1);
        fault("coin 1;short 1 0;fare 0 0 1 0;rank ranks 1 1 1;let ranks 3 23 23;let ranks 0 0 0;", -1);
    }

    private static void tokens() {
        fault("Rank a 0 1 0;" + FARE, 0);
        fault("rank a 0 1 0;\t" + FARE, 13);
        fault("rank a 0 1 0;\r\n" + FARE, 13);
        fault("rank a -1 1 0;" + FARE, 7);
        fault("rank a 1$ 1 0;" + FARE, 8);
        fault("rank A 0 1 0;" + FARE, 5);
        fault("rank \u00e4 0 1 0;" + FARE, 5);
        fault("ran! a 0 1 0;" + FARE, 0);
        fault("rank! a 0 1 0;" + FARE, 4);
        fault("rank abcdefghi! 0 1 0;" + FARE, 5);
        fault("rank a 100! 1 0;" + FARE, 7);
        fault(";", 0);
        fault("5", 0);
        fault("  x", 2);
        fault("ranks a 0 1 0;" + FARE, 0);
    }

    private static void rankFaults() {
        for (String word : new String[] {"rank", "let", "fare", "short", "coin", "abcdefghi", "5", ";"}) {
            fault("rank " + word + " 0 1 0;" + FARE, 5);
        }
        fault("rank a 100 1 0;" + FARE, 7);
        fault("rank a 99999999999999999999 1 0;" + FARE, 7);
        fault("rank a 4294967297 1 0;" + FARE, 7);
        fault("rank a b 1 0;" + FARE, 7);
        fault("rank a 1 0 0;" + FARE, 9);
        fault("rank a 1 10 0;" + FARE, 9);
        fault("rank a 1 1 10;" + FARE, 11);
        fault("rank a 1 1 1 1;" + FARE, 13);
        fault("rank a 1 1;" + FARE, 10);
        fault("rank a 1 1 1 rank b 2 1 1;" + FARE, 13);
        fault("rank a 1 1 1;rank a 2 1 1;" + FARE, 18);
        fault("rank a 1 1 1;rank b 1 1 1;" + FARE, 20);
        fault("rank a 1 1 1;rank b 01 1 1;" + FARE, 20);
        fault("rank ab 1 1 1;rank a 2 1 1;rank abc 3 1 1;rank b 4 1 1;" + FARE, -1);
    }

    private static void letFaults() {
        fault("rank a 1 1 1;let b 0 0 0;" + FARE, 17);
        fault("let a 0 0 0;rank a 1 1 1;" + FARE, 4);
        fault("rank a 1 1 1;let rank 0 0 0;" + FARE, 17);
        fault("rank a 1 1 1;let 1 0 0 0;" + FARE, 17);
        fault("rank a 1 1 1;let a 4 0 0;" + FARE, 19);
        fault("rank a 1 1 1;let a 3 24 24;" + FARE, 21);
        fault("rank a 1 1 1;let a 3 5 4;" + FARE, 23);
        fault("rank a 1 1 1;let a 3 5 24;" + FARE, 23);
        fault("rank a 1 1 1;let a 3 5 5 5;" + FARE, 25);
        fault("rank a 1 1 1;let a 3 5 5;" + FARE, -1);
    }

    private static void onceFaults() {
        String rank = "rank a 1 1 1;";
        fault(rank + "fare 1000 0 1 0;", 18);
        fault(rank + "fare 0 1000 1 0;", 20);
        fault(rank + "fare 0 0 0 0;", 22);
        fault(rank + "fare 0 0 100 0;", 22);
        fault(rank + "fare 0 0 1 100;", 24);
        fault(rank + "fare 0 0 1 0 0;", 26);
        fault(rank + FARE + "fare", 26);
        fault(rank + FARE + "short 0 0;", 32);
        fault(rank + FARE + "short 100 0;", 32);
        fault(rank + FARE + "short 1 241;", 34);
        fault(rank + FARE + "short 1 1;short 1 1;", 36);
        fault(rank + FARE + "coin 0;", 31);
        fault(rank + FARE + "coin 51;", 31);
        fault(rank + FARE + "coin x;", 31);
        fault(rank + FARE + "coin 50;coin 50;", 34);
    }

    private static void tooEarly() {
        fault("", 0);
        fault("   ", 3);
        fault("rank", 4);
        fault("rank a 1 1 1", 12);
        fault("rank a 1 1 1 \n", 14);
        fault("rank a 1 1 1;", 13);
        fault(FARE, 13);
        fault("rank a 1 1 1;let", 16);
        fault("rank a 1 1 1;fare 0 0 1 0", 25);
        fault("rank a 1 1 1;short 1 1;coin 1;", 30);
    }

    private static void counts() {
        StringBuilder six = new StringBuilder(FARE);
        for (int k = 0; k < 6; k++) {
            six.append("rank ").append((char) ('a' + k)).append(' ').append(k).append(" 1 1;");
        }
        fault(six.toString(), -1);
        fault(six + "rank", six.length());
        StringBuilder eight = new StringBuilder(FARE + "rank a 1 1 1;");
        for (int k = 0; k < 8; k++) {
            eight.append("let a ").append(k % 4).append(" 1 1;");
        }
        fault(eight.toString(), -1);
        fault(eight + " let", eight.length() + 1);
    }

    private static void cityOfText() {
        CabRanks x = new CabRanks();
        Due.text(x, "rank a 1 1 1;");
        DUE.is("city with a fault", x.city(), -1);
        DUE.is("the text stays", x.count(5), 13);
        Due.text(x, "rank a 1 1 1;rank b 7 2 3;" + FARE + "let b 1 2 3;");
        DUE.is("fault changes no city", x.fault(), -1);
        DUE.is("no city yet", x.count(0), 0);
        DUE.is("city", x.city(), 2);
        DUE.is("the text is empty", x.count(5), 0);
        DUE.is("ranks", x.count(0), 2);
        DUE.is("lets", x.count(1), 1);
        DUE.is("no text, no city", x.city(), -1);
        Due.text(x, "rank z 50 4 4;rank");
        DUE.is("a fault leaves the city", x.city(), -1);
        DUE.is("ranks stay", x.count(0), 2);
        DUE.is("place stays", x.rank(1, 0), 7);
        DUE.is("may stays", x.may(1, 0, 2), 0);
        Due.text(x, "rank z 50 4 4;" + FARE);
        DUE.is("the next city", x.city(), 1);
        DUE.is("lets gone", x.count(1), 0);
        DUE.is("place", x.rank(0, 0), 50);
        DUE.is("may", x.may(0, 0, 2), 1);
    }

    private static void cityClears() {
        CabRanks x = Due.city("rank a 1 3 0;rank b 9 3 0;fare 7 5 3 0;short 50 60;coin 10;");
        x.cab(0, 1);
        x.cab(0, 1);
        x.drive(0, 0);
        x.drive(1, 0);
        x.refuse(0);
        x.go(5);
        x.people(0, 3);
        x.reading(0, 0, 1);
        x.chance(0, 16, 1, 0);
        x.image(0);
        DUE.is("a pass", x.pass(-1, 0), 1);
        Due.text(x, "rank a 1 3 0;rank b 9 3 0;" + FARE);
        DUE.is("anew", x.city(), 2);
        DUE.is("minute", x.count(3), 0);
        DUE.is("cabs", x.count(2), 0);
        DUE.is("readings", x.count(4), 0);
        DUE.is("passes", x.pass(-1, 0), 0);
        DUE.is("people", x.rank(0, 4), 0);
        DUE.is("standing", x.rank(0, 3), 0);
        DUE.is("row", x.row(0, 0), -1);
        DUE.is("image", x.back(0), false);
        DUE.is("chances", x.worth(0, 0, 120), 0);
        DUE.is("thumb 2", x.thumb(2, 9, 9, 1), 0);
        DUE.is("coin is 1", x.price(1, 0), 2);
        x.cab(0, 1);
        x.drive(0, 0);
        x.take(0, 1, 1);
        DUE.is("no short", x.of(0, 5), -1);
    }
}
