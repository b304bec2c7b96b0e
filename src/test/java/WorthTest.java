/** Promises 19 to 22: chance, worth, going, thumb. */
public final class WorthTest {
    private static final Due DUE = new Due("WorthTest");

    public static void main(String[] args) {
        chances();
        worthByHand();
        worthEdges();
        great();
        goingTo();
        goingBehindThoseWhoStand();
        thumbs();
        thumbTooFar();
        DUE.close();
    }

    private static CabRanks two() {
        return Due.city("rank a 10 9 9;rank b 30 9 9;fare 100 10 1 5;coin 50;");
    }

    private static void chances() {
        CabRanks x = two();
        DUE.is("q -1", x.chance(0, -1, 1, 0), false);
        DUE.is("q 17", x.chance(0, 17, 1, 0), false);
        DUE.is("0 minutes", x.chance(0, 16, 0, 0), false);
        DUE.is("61 minutes", x.chance(0, 16, 61, 0), false);
        DUE.is("no rank", x.chance(2, 16, 1, 0), false);
        DUE.is("no rank -1", x.chance(-1, 16, 1, 0), false);
        DUE.is("to no rank", x.chance(0, 16, 1, 2), false);
        DUE.is("to no rank -1", x.chance(0, 16, 1, -1), false);
        DUE.is("nothing changed", x.worth(0, 0, 120), 0);
        DUE.is("60 minutes", x.chance(0, 16, 60, 1), true);
        DUE.is("a fare of 60", x.worth(0, 0, 60), 700000);
        DUE.is("q 0", x.chance(0, 0, 1, 0), true);
        DUE.is("none comes", x.worth(0, 0, 120), 0);
    }

    private static void worthByHand() {
        CabRanks x = two();
        x.chance(0, 8, 2, 1);
        DUE.is("nothing left", x.worth(0, 0, 0), 0);
        DUE.is("too long", x.worth(0, 0, 1), 0);
        DUE.is("half of 150", x.worth(0, 0, 2), 75000);
        DUE.is("half of 150, half of 75", x.worth(0, 0, 3), 112500);
        DUE.is("behind one", x.worth(0, 1, 3), 37500);
        DUE.is("behind one", x.worth(0, 1, 4), (112500 + 37500) / 2);
        DUE.is("behind two", x.worth(0, 2, 4), 18750);
        x.chance(0, 3, 1, 0);
        DUE.is("cut once", x.worth(0, 0, 1), 3 * 150000 / 16);
        int second = (3 * (150000 + 28125) + 13 * 28125) / 16;
        DUE.is("cut twice", x.worth(0, 0, 2), second);
        int third = (3 * (150000 + second) + 13 * second) / 16;
        DUE.is("cut thrice", x.worth(0, 0, 3), third);
    }

    private static void worthEdges() {
        CabRanks x = two();
        x.chance(0, 16, 1, 0);
        DUE.is("no rank", x.worth(2, 0, 0), -1);
        DUE.is("no rank -1", x.worth(-1, 0, 0), -1);
        DUE.is("10 ahead", x.worth(0, 10, 0), -1);
        DUE.is("-1 ahead", x.worth(0, -1, 0), -1);
        DUE.is("121 left", x.worth(0, 0, 121), -1);
        DUE.is("-1 left", x.worth(0, 0, -1), -1);
        DUE.is("9 ahead, 9 left", x.worth(0, 9, 9), 0);
        DUE.is("9 ahead, 10 left", x.worth(0, 9, 10), 150000);
        DUE.is("all", x.worth(0, 0, 120), 120 * 150000);
    }

    private static void great() {
        CabRanks x = Due.city("rank a 10 9 9;fare 999 999 1 5;coin 50;");
        x.chance(0, 16, 1, 0);
        DUE.is("sixteen times it is beyond an int", x.worth(0, 0, 120), 120 * 2000000);
        x.chance(0, 15, 1, 0);
        long worth = 0;
        for (int left = 1; left <= 120; left++) {
            worth = (15 * (2000000 + worth) + worth) / 16;
        }
        DUE.is("fifteen of sixteen", x.worth(0, 0, 120), worth);
    }

    private static void goingTo() {
        CabRanks x = two();
        x.chance(0, 16, 10, 1);
        x.chance(1, 16, 5, 0);
        DUE.is("place 100", x.going(100, 1, 0), -1);
        DUE.is("place -1", x.going(-1, 1, 0), -1);
        DUE.is("121 left", x.going(0, 121, 0), -1);
        DUE.is("-1 left", x.going(0, -1, 0), -1);
        DUE.is("what 2", x.going(10, 10, 2), -1);
        DUE.is("what -1", x.going(10, 10, -1), -1);
        DUE.is("none near", x.going(20, 9, 0), 0);
        DUE.is("to none", x.going(20, 9, 1), -1);
        DUE.is("like ones, of 0: the least", x.going(20, 10, 1), 0);
        DUE.is("b, 5 minutes there", x.going(20, 15, 1), 1);
        DUE.is("b, 5 minutes there", x.going(20, 15, 0), 150000);
        DUE.is("a, 10 minutes there", x.going(20, 20, 1), 0);
        DUE.is("a, 10 minutes there", x.going(20, 20, 0), 200000);
        // 10 to b, 5 to a, where there are 10 minutes left
        DUE.is("a, b, a", x.worth(0, 0, 25), 200000 + 150000 + 200000);
        // the fare's goal is far from the next one's start
        x.chance(1, 0, 1, 0);
        DUE.is("back with 20 minutes", x.worth(0, 0, 40), 400000);
        DUE.is("not back", x.worth(0, 0, 39), 200000);
        // like ones: the least
        x.chance(1, 16, 10, 1);
        x.chance(0, 16, 10, 0);
        DUE.is("like ones", x.going(20, 40, 1), 0);
    }

    private static void goingBehindThoseWhoStand() {
        CabRanks x = two();
        x.chance(0, 16, 1, 0);
        for (int cab = 0; cab < 12; cab++) {
            x.cab(0, 10);
            DUE.is("going with " + cab, x.going(10, 20, 0), x.worth(0, Math.min(cab, 9), 20));
            x.drive(cab, 0);
        }
        // nine ahead at most, and again after each fare
        DUE.is("nine ahead at most", x.going(10, 10, 0), 150000);
        DUE.is("nine ahead at most", x.going(10, 19, 0), 150000);
        DUE.is("again nine", x.going(10, 20, 0), 300000);
        x.take(0, 1, 10);
        x.take(0, 1, 10);
        x.take(0, 1, 10);
        x.take(0, 1, 10);
        DUE.is("eight ahead now", x.going(10, 9, 0), 150000);
        x.image(0);
        x.take(0, 1, 10);
        DUE.is("seven ahead now", x.going(10, 8, 0), 150000);
        x.back(0);
        DUE.is("eight again", x.going(10, 8, 0), 0);
    }

    private static void thumbs() {
        CabRanks x = Due.city("rank a 50 9 9;rank b 20 9 9;rank c 30 9 9;fare 100 10 1 5;");
        x.chance(0, 16, 10, 0);
        x.chance(1, 4, 10, 0);
        x.chance(2, 16, 10, 1);
        DUE.is("nearest, like ones", x.thumb(0, 25, 60, 1), 1);
        DUE.is("nearest", x.thumb(0, 26, 60, 1), 2);
        DUE.is("nearest", x.thumb(0, 99, 0, 1), 0);
        DUE.is("fewest, like ones", x.thumb(1, 25, 60, 1), 0);
        DUE.is("greatest q, like ones", x.thumb(2, 25, 60, 1), 0);
        x.cab(0, 50);
        x.drive(0, 0);
        DUE.is("fewest", x.thumb(1, 25, 60, 1), 1);
        DUE.is("LOST by the one to which it GOES", x.thumb(0, 30, 12, 0), 0);
        int going = x.going(25, 60, 0);
        DUE.is("LOST by 0", x.thumb(0, 25, 60, 0), going - x.worth(1, 0, 55));
        DUE.is("LOST by 1", x.thumb(1, 25, 60, 0), going - x.worth(1, 0, 55));
        DUE.is("LOST by 2", x.thumb(2, 25, 60, 0), going - x.worth(0, 1, 35));
        DUE.is("thumb 3", x.thumb(3, 25, 60, 0), -1);
        DUE.is("thumb -1", x.thumb(-1, 25, 60, 0), -1);
        DUE.is("what 2", x.thumb(0, 25, 60, 2), -1);
        DUE.is("what -1", x.thumb(0, 25, 60, -1), -1);
        DUE.is("place 100", x.thumb(0, 100, 60, 1), -1);
        DUE.is("place -1", x.thumb(0, -1, 60, 1), -1);
        DUE.is("121 left", x.thumb(0, 0, 121, 1), -1);
        DUE.is("-1 left", x.thumb(0, 0, -1, 1), -1);
    }

    private static void thumbTooFar() {
        CabRanks x = Due.city("rank a 90 9 9;rank b 10 9 9;fare 100 0 1 0;let a 0 0 0;");
        x.chance(0, 16, 1, 0);
        x.chance(1, 15, 1, 1);
        DUE.is("the greatest q, though too far", x.thumb(2, 10, 1, 1), 0);
        DUE.is("all is LOST", x.thumb(2, 10, 1, 0), 15 * 100000 / 16);
        DUE.is("none LOST", x.thumb(0, 10, 1, 0), 0);
    }
}
