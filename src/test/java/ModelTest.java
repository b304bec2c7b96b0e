import java.nio.charset.StandardCharsets;
import java.util.Random;

/** All promises: random runs of at most 512 calls, each answer against that of the Model. */
public final class ModelTest {
    private static final Due DUE = new Due("ModelTest");
    private static final String[] CALLS = {"rank", "may", "price", "cab", "of", "drive", "row", "take", "call",
        "refuse", "change", "go", "pass", "chance", "worth", "going", "thumb", "people", "brought", "dead",
        "toLift", "reading", "jumpers", "cant", "wish", "rings", "turn", "earned", "image", "back", "count",
        "feed", "end", "fault", "city"};
    /** How often each call comes, in the same order. */
    private static final int[] OFTEN = {2, 1, 1, 14, 6, 30, 3, 8, 4,
        4, 4, 14, 4, 5, 2, 2, 2, 5, 2, 2,
        1, 7, 3, 3, 30, 2, 2, 1, 1, 1, 2,
        1, 1, 1, 0};
    private static final int RUNS = 1500;

    private final Random random;
    private final CabRanks x = new CabRanks();
    private final Model m = new Model();
    private final boolean wild;
    private int calls = 0;

    private ModelTest(long seed) {
        random = new Random(seed);
        wild = random.nextInt(4) == 0;
    }

    public static void main(String[] args) {
        for (int seed = 0; seed < RUNS; seed++) {
            new ModelTest(seed).run(seed);
        }
        DUE.close();
    }

    private void run(int seed) {
        if (random.nextInt(3) == 0) {
            for (int k = 0; k < 40; k++) {
                one(seed);
            }
        }
        for (int tries = 0; tries < 4; tries++) {
            newText(seed);
        }
        while (calls < 512) {
            if (random.nextInt(300) == 0) {
                newText(seed);
            }
            one(seed);
        }
    }

    private int below(int n) {
        return random.nextInt(n);
    }

    /** A number from 0 to one less than n, at times outside. */
    private int about(int n) {
        int chance = below(wild ? 8 : 60);
        if (chance == 0) {
            return below(2) == 0 ? -1 : n;
        }
        if (chance == 1 && wild) {
            int[] odd = {Integer.MIN_VALUE, Integer.MAX_VALUE, -2, n + 1, 100, 1 << 20, random.nextInt()};
            return odd[below(odd.length)];
        }
        return below(n);
    }

    private void due(int seed, String call, int got, int want) {
        calls++;
        DUE.is("seed " + seed + ", call " + calls + ": " + call, got, want);
    }

    // ---- texts

    private String cityText() {
        StringBuilder s = new StringBuilder();
        int ranks = 1 + below(6);
        String[] names = {"a", "b", "station", "ranks", "le", "coins"};
        int[] places = new int[6];
        boolean fare = false;
        for (int k = 0; k < ranks; k++) {
            places[k] = below(2) == 0 ? k * 3 + 1 : k * 16 + below(16);
            s.append("rank ").append(names[k]).append(' ').append(places[k]).append(' ').append(1 + below(below(2) == 0 ? 2 : 9))
                    .append(' ').append(below(10)).append(blank()).append(';').append(blank());
            if (!fare && below(3) == 0) {
                fare = true;
                appendFare(s);
            }
            for (int j = below(3); j > 0; j--) {
                int from = below(24);
                int to = from + below(24 - from);
                s.append("let ").append(names[below(k + 1)]).append(' ').append(below(4)).append(' ')
                        .append(below(2) == 0 ? 0 : from).append(' ').append(below(3) == 0 ? 23 : to).append(";").append(blank());
            }
        }
        if (!fare) {
            appendFare(s);
        }
        if (below(3) > 0) {
            s.append("short ").append(1 + below(60)).append(' ').append(below(241)).append(";");
        }
        if (below(2) == 0) {
            s.append("coin ").append(1 + below(50)).append(";");
        }
        return s.toString();
    }

    private void appendFare(StringBuilder s) {
        s.append("fare ").append(below(1000)).append(' ').append(below(1000)).append(' ').append(1 + below(9)).append(' ')
                .append(below(100)).append(";").append(blank());
    }

    private String blank() {
        String[] blanks = {"", "", "", " ", "\n", " \n "};
        return blanks[below(blanks.length)];
    }

    private String spoilt(String text) {
        StringBuilder s = new StringBuilder(text);
        String signs = " ;019azA\n-\t" + (char) 0 + (char) 200;
        String[] words = {"rank ", "let ", "fare ", "coin ", "short ", "a ", "99 ", "100 ", ";", "rank q 98 1 1;", "1000 ", "0 "};
        for (int k = 1 + below(2); k > 0 && s.length() > 0; k--) {
            int at = below(s.length());
            switch (below(6)) {
                case 0: s.deleteCharAt(at); break;
                case 1: s.insert(at, signs.charAt(below(signs.length()))); break;
                case 2: s.setCharAt(at, signs.charAt(below(signs.length()))); break;
                case 3: s.setLength(at); break;
                case 4: s.insert(at, words[below(words.length)]); break;
                default: s.append(words[below(words.length)]);
            }
        }
        return s.toString();
    }

    private void newText(int seed) {
        String text = cityText();
        if (below(3) == 0) {
            text = spoilt(text);
        }
        byte[] bytes = text.getBytes(StandardCharsets.ISO_8859_1);
        if (bytes.length > 500) {
            bytes = java.util.Arrays.copyOf(bytes, 500);
        }
        due(seed, "end(0)", x.end(0) ? 1 : 0, m.end(0));
        for (int from = 0; from < bytes.length; from += 20) {
            int[] n = new int[5];
            for (int k = 0; k < 20; k++) {
                int sign = from + k < bytes.length ? bytes[from + k] & 255 : 32;
                n[k / 4] = n[k / 4] << 8 | sign;
            }
            due(seed, "feed", x.feed(n[0], n[1], n[2], n[3], n[4]), m.feed(n[0], n[1], n[2], n[3], n[4]));
        }
        due(seed, "end", x.end(bytes.length) ? 1 : 0, m.end(bytes.length));
        due(seed, "fault of " + text, x.fault(), m.fault());
        due(seed, "city", x.city(), m.city());
    }

    // ---- calls

    private void one(int seed) {
        int all = 0;
        for (int often : OFTEN) {
            all += often;
        }
        int pick = below(all);
        int k = 0;
        while (pick >= OFTEN[k]) {
            pick -= OFTEN[k];
            k++;
        }
        ask(seed, CALLS[k]);
    }

    private int anyRank() {
        return about(Math.max(1, m.count(0)));
    }

    private int anyCab() {
        return about(Math.max(1, m.count(2)));
    }

    private int bool(boolean answer) {
        return answer ? 1 : 0;
    }

    private void ask(int seed, String call) {
        int a = anyRank();
        int b = anyCab();
        int c = anyCab();
        int place = below(2) == 0 ? about(100) : Math.max(0, m.rank(below(6), 0));
        int fare = 1 + about(below(2) == 0 ? 20 : 240);
        int left = about(121);
        int what;
        switch (call) {
            case "rank": what = about(5); due(seed, call, x.rank(a, what), m.rank(a, what)); break;
            case "may": what = about(4); b = about(24); due(seed, call, x.may(a, what, b), m.may(a, what, b)); break;
            case "price": what = about(241); due(seed, call, x.price(fare, what), m.price(fare, what)); break;
            case "cab": what = about(4); due(seed, call, x.cab(what, place), m.cab(what, place)); break;
            case "of": what = about(10); due(seed, call + " " + what, x.of(b, what), m.of(b, what)); break;
            case "drive": due(seed, call, bool(x.drive(b, a)), m.drive(b, a)); break;
            case "row": what = about(6); due(seed, call, x.row(a, what), m.row(a, what)); break;
            case "take": due(seed, call, x.take(a, fare, place), m.take(a, fare, place)); break;
            case "call": due(seed, call, bool(x.call(b, fare, place)), m.call(b, fare, place)); break;
            case "refuse": due(seed, call, x.refuse(a), m.refuse(a)); break;
            case "change": due(seed, call, bool(x.change(b, c)), m.change(b, c)); break;
            case "go": what = below(4) > 0 ? 1 + about(12) : 1 + about(300); due(seed, call, x.go(what), m.go(what)); break;
            case "pass": askPass(seed); break;
            default: askMore(seed, call, a, b, place, left);
        }
    }

    private void askPass(int seed) {
        due(seed, "pass", x.pass(-1, 0), m.pass(-1, 0));
        int k = about(40);
        int what = about(5);
        due(seed, "pass(" + k + ", " + what + ")", x.pass(k, what), m.pass(k, what));
    }

    private void askMore(int seed, String call, int a, int b, int place, int left) {
        int what = about(3);
        int two = about(2);
        int n;
        switch (call) {
            case "chance": {
                int q = about(17);
                int minutes = 1 + about(below(2) == 0 ? 60 : 6);
                int to = anyRank();
                due(seed, call, bool(x.chance(a, q, minutes, to)), m.chance(a, q, minutes, to));
                break;
            }
            case "worth": n = about(10); due(seed, call, x.worth(a, n, left), m.worth(a, n, left)); break;
            case "going": due(seed, call, x.going(place, left, two), m.going(place, left, two)); break;
            case "thumb": due(seed, call, x.thumb(what, place, left, two), m.thumb(what, place, left, two)); break;
            case "people": n = about(below(2) == 0 ? 21 : 4); due(seed, call, bool(x.people(a, n)), m.people(a, n)); break;
            case "brought": due(seed, call, x.brought(two), m.brought(two)); break;
            case "dead": {
                n = about(24);
                int lifted = about(1 << m.count(1));
                due(seed, call, x.dead(n, lifted), m.dead(n, lifted));
                break;
            }
            case "toLift": {
                n = about(24);
                int most = below(4) == 0 ? about(2001) : below(Math.max(1, m.dead(0, 0) + 1));
                due(seed, call, x.toLift(n, most), m.toLift(n, most));
                break;
            }
            case "reading": askReading(seed, a); break;
            case "jumpers": n = about(12); due(seed, call, x.jumpers(n, what), m.jumpers(n, what)); break;
            case "cant": n = about(12); due(seed, call, x.cant(n), m.cant(n)); break;
            case "wish": n = below(12) == 0 ? -1 : a; due(seed, call, bool(x.wish(b, n)), m.wish(b, n)); break;
            case "rings": due(seed, call, x.rings(), m.rings()); break;
            case "turn": due(seed, call, x.turn(), m.turn()); break;
            case "earned": due(seed, call, x.earned(what), m.earned(what)); break;
            case "image": due(seed, call, bool(x.image(what)), m.image(what)); break;
            case "back": due(seed, call, bool(x.back(what)), m.back(what)); break;
            case "count": n = about(8); due(seed, call, x.count(n), m.count(n)); break;
            case "feed": n = random.nextInt(); due(seed, call, x.feed(n, a, b, n, n), m.feed(n, a, b, n, n)); break;
            case "end": n = about(501); due(seed, call, bool(x.end(n)), m.end(n)); break;
            case "fault": due(seed, call, x.fault(), m.fault()); break;
            default: throw new IllegalArgumentException(call);
        }
    }

    private void askReading(int seed, int rank) {
        int cabs = 0;
        int met = 0;
        for (int k = about(7); k > 0 && k < 8; k--) {
            int cab = anyCab();
            if (below(20) == 0 || cab >= 0 && cab < 16 && (met & 1 << cab) == 0) {
                met |= 1 << cab;
                cabs = cabs * 17 + cab + 1;
            }
        }
        int minute = below(30) == 0 ? about(Integer.MAX_VALUE) : Math.max(0, m.count(3) - (below(9) == 0 ? 1 : 0));
        due(seed, "reading " + cabs, x.reading(rank, minute, cabs), m.reading(rank, minute, cabs));
    }
}
