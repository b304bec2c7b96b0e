import java.util.ArrayList;
import java.util.Arrays;
import java.util.HashMap;
import java.util.List;
import java.util.Map;

/**
 * A second writing of the document, slow and plain, that shares nothing with the class: lists
 * instead of rows, every heap tried instead of searched, texts read by splitting them first.
 */
final class Model {
    private static final int NONE = -1;
    private static final List<String> KEYS = List.of("rank", "let", "fare", "short", "coin");

    private record Token(int at, String text) { }

    private record Rank(String name, int x, int p, int f) { }

    private record Let(int rank, int zone, int from, int to) { }

    private record Reading(int rank, int minute, List<Integer> cabs) { }

    private static final class Town {
        final List<Rank> ranks = new ArrayList<>();
        final List<Let> lets = new ArrayList<>();
        int[] fare = null;
        int[] shorts = null;
        int[] coin = null;
    }

    private static final class Cab {
        int zone;
        int state;
        int place;
        int rank = NONE;
        int due = NONE;
        int ticket = NONE;
        int till = NONE;
        int earned;
        int waited;
        int wish = NONE;
        boolean byTicket;

        Cab copy() {
            Cab c = new Cab();
            c.zone = zone;
            c.state = state;
            c.place = place;
            c.rank = rank;
            c.due = due;
            c.ticket = ticket;
            c.till = till;
            c.earned = earned;
            c.waited = waited;
            c.wish = wish;
            c.byTicket = byTicket;
            return c;
        }
    }

    private static final class Day {
        int minute;
        List<Cab> cabs = new ArrayList<>();
        List<List<Integer>> rows = new ArrayList<>();
        List<int[]> passes = new ArrayList<>();
        int[] people = new int[6];

        Day() {
            for (int k = 0; k < 6; k++) {
                rows.add(new ArrayList<>());
            }
        }

        Day copy() {
            Day d = new Day();
            d.minute = minute;
            for (Cab c : cabs) {
                d.cabs.add(c.copy());
            }
            for (int k = 0; k < 6; k++) {
                d.rows.get(k).addAll(rows.get(k));
            }
            for (int[] p : passes) {
                d.passes.add(p.clone());
            }
            d.people = people.clone();
            return d;
        }
    }

    private final StringBuilder text = new StringBuilder();
    private Town town = null;
    private Town draft = null;
    private Day day = new Day();
    private Day[] images = new Day[3];
    private int[][] chances = new int[6][3];
    private final List<Reading> book = new ArrayList<>();
    private final Map<List<Integer>, Integer> worths = new HashMap<>();

    // ---- the text

    int feed(int a, int b, int c, int d, int e) {
        if (text.length() + 20 > 500) {
            return NONE;
        }
        for (int n : new int[] {a, b, c, d, e}) {
            text.append((char) (n >>> 24)).append((char) (n >>> 16 & 255));
            text.append((char) (n >>> 8 & 255)).append((char) (n & 255));
        }
        return text.length();
    }

    int end(int n) {
        if (n < 0 || n > text.length()) {
            return 0;
        }
        text.setLength(n);
        return 1;
    }

    private List<Token> split() {
        List<Token> tokens = new ArrayList<>();
        String s = text.toString();
        int i = 0;
        while (i < s.length()) {
            String rest = s.substring(i);
            String token = rest.replaceFirst("(?s)^([a-z]+|[0-9]+|.).*$", "$1");
            if (!token.equals(" ") && !token.equals("\n")) {
                tokens.add(new Token(i, token));
            }
            i += token.length();
        }
        return tokens;
    }

    int fault() {
        draft = new Town();
        List<Token> tokens = split();
        int k = 0;
        while (k < tokens.size()) {
            String key = tokens.get(k).text;
            boolean full = key.equals("rank") && draft.ranks.size() == 6 || key.equals("let") && draft.lets.size() == 8
                    || key.equals("fare") && draft.fare != null || key.equals("short") && draft.shorts != null
                    || key.equals("coin") && draft.coin != null;
            if (!KEYS.contains(key) || full) {
                return tokens.get(k).at;
            }
            int[][] ranges = ranges(key);
            boolean named = key.equals("rank") || key.equals("let");
            int size = ranges.length + (named ? 1 : 0);
            int[] values = new int[ranges.length];
            String name = null;
            for (int j = 0; j <= size; j++) {
                if (k + 1 + j >= tokens.size()) {
                    return text.length();
                }
                Token t = tokens.get(k + 1 + j);
                boolean good;
                if (j == size) {
                    good = t.text.equals(";");
                } else if (named && j == 0) {
                    name = t.text;
                    good = name.matches("[a-z]{1,8}") && !KEYS.contains(name)
                            && (find(draft, name) == NONE) == key.equals("rank");
                } else {
                    int r = named ? j - 1 : j;
                    good = t.text.matches("[0-9]+");
                    if (good) {
                        java.math.BigInteger v = new java.math.BigInteger(t.text);
                        good = v.bitLength() < 20;
                        values[r] = good ? v.intValue() : 0;
                    }
                    good = good && values[r] >= ranges[r][0] && values[r] <= ranges[r][1];
                    if (good && key.equals("rank") && r == 0) {
                        int x = values[0];
                        good = draft.ranks.stream().noneMatch(q -> q.x == x);
                    }
                    if (good && key.equals("let") && r == 2) {
                        good = values[2] >= values[1];
                    }
                }
                if (!good) {
                    return t.at;
                }
            }
            tell(draft, key, name, values);
            k += size + 2;
        }
        return draft.ranks.isEmpty() || draft.fare == null ? text.length() : NONE;
    }

    private static int[][] ranges(String key) {
        switch (key) {
            case "rank": return new int[][] {{0, 99}, {1, 9}, {0, 9}};
            case "let": return new int[][] {{0, 3}, {0, 23}, {0, 23}};
            case "fare": return new int[][] {{0, 999}, {0, 999}, {1, 99}, {0, 99}};
            case "short": return new int[][] {{1, 99}, {0, 240}};
            default: return new int[][] {{1, 50}};
        }
    }

    private static int find(Town t, String name) {
        for (int k = 0; k < t.ranks.size(); k++) {
            if (t.ranks.get(k).name.equals(name)) {
                return k;
            }
        }
        return NONE;
    }

    private static void tell(Town t, String key, String name, int[] v) {
        switch (key) {
            case "rank": t.ranks.add(new Rank(name, v[0], v[1], v[2])); break;
            case "let": t.lets.add(new Let(find(t, name), v[0], v[1], v[2])); break;
            case "fare": t.fare = v.clone(); break;
            case "short": t.shorts = v.clone(); break;
            default: t.coin = v.clone();
        }
    }

    int city() {
        if (fault() != NONE) {
            return NONE;
        }
        town = draft;
        text.setLength(0);
        day = new Day();
        images = new Day[3];
        chances = new int[6][3];
        book.clear();
        return town.ranks.size();
    }

    // ---- the city

    private boolean noRank(int rank) {
        return town == null || rank < 0 || rank >= town.ranks.size();
    }

    private boolean noCab(int cab) {
        return cab < 0 || cab >= day.cabs.size();
    }

    private int x(int rank) {
        return town.ranks.get(rank).x;
    }

    int rank(int rank, int what) {
        if (noRank(rank) || what < 0 || what > 4) {
            return NONE;
        }
        Rank r = town.ranks.get(rank);
        return new int[] {r.x, r.p, r.f, day.rows.get(rank).size(), day.people[rank]}[what];
    }

    private boolean mayIf(int rank, int zone, int hour, int lifted) {
        boolean any = false;
        for (int k = 0; k < town.lets.size(); k++) {
            Let l = town.lets.get(k);
            if (l.rank == rank && (lifted & 1 << k) == 0) {
                any = true;
                if (l.zone == zone && l.from <= hour && hour <= l.to) {
                    return true;
                }
            }
        }
        return !any;
    }

    int may(int rank, int zone, int hour) {
        if (noRank(rank) || zone < 0 || zone > 3 || hour < 0 || hour > 23) {
            return NONE;
        }
        return mayIf(rank, zone, hour, 0) ? 1 : 0;
    }

    private int pay(int minutes, int waited) {
        int sum = town.fare[0] + town.fare[3] * waited;
        for (int begun = 0; begun < minutes; begun += town.fare[2]) {
            sum += town.fare[1];
        }
        int coin = town.coin == null ? 1 : town.coin[0];
        while (sum % coin != 0) {
            sum++;
        }
        return sum;
    }

    int price(int minutes, int waited) {
        if (town == null || minutes < 1 || minutes > 240 || waited < 0 || waited > 240) {
            return NONE;
        }
        return pay(minutes, waited);
    }

    // ---- the day

    int cab(int zone, int place) {
        if (town == null || zone < 0 || zone > 3 || place < 0 || place > 99 || day.cabs.size() == 16) {
            return NONE;
        }
        Cab c = new Cab();
        c.zone = zone;
        c.place = place;
        day.cabs.add(c);
        return day.cabs.size() - 1;
    }

    int of(int cab, int what) {
        if (noCab(cab) || what < 0 || what > 9) {
            return NONE;
        }
        Cab c = day.cabs.get(cab);
        int place = c.state == 0 ? c.place : c.state == 2 ? x(c.rank) : NONE;
        int rank = c.state == 1 || c.state == 2 ? c.rank : NONE;
        int inRow = c.state == 2 ? day.rows.get(c.rank).indexOf(cab) : NONE;
        int due = c.state == 1 || c.state == 3 ? c.due : NONE;
        return new int[] {c.state, place, rank, inRow, due, c.ticket, c.till, c.earned, c.waited, c.wish}[what];
    }

    int drive(int cab, int rank) {
        if (noCab(cab) || noRank(rank) || day.cabs.get(cab).state != 0) {
            return 0;
        }
        Cab c = day.cabs.get(cab);
        c.state = 1;
        c.rank = rank;
        c.due = day.minute + Math.abs(c.place - x(rank));
        if (c.due == day.minute) {
            come(cab);
        }
        return 1;
    }

    private void come(int cab) {
        Cab c = day.cabs.get(cab);
        if (c.state == 3) {
            c.state = 0;
            return;
        }
        List<Integer> row = day.rows.get(c.rank);
        Rank r = town.ranks.get(c.rank);
        if (!mayIf(c.rank, c.zone, day.minute / 60 % 24, 0) || row.size() >= r.p + r.f) {
            c.state = 0;
            c.place = r.x;
            return;
        }
        c.state = 2;
        c.byTicket = c.ticket == c.rank && day.minute <= c.till;
        if (!c.byTicket) {
            row.add(cab);
            return;
        }
        c.ticket = NONE;
        c.till = NONE;
        int k = 0;
        while (k < row.size() && day.cabs.get(row.get(k)).byTicket) {
            k++;
        }
        row.add(k, cab);
        passed(cab, c.rank, 1, row.size() - k - 1);
    }

    private void passed(int cab, int rank, int law, int many) {
        if (many > 0) {
            day.passes.add(new int[] {day.minute, cab, rank, law, many});
        }
        if (day.passes.size() > 40) {
            day.passes.remove(0);
        }
    }

    int row(int rank, int k) {
        return noRank(rank) || k < 0 || k >= day.rows.get(rank).size() ? NONE : day.rows.get(rank).get(k);
    }

    private boolean noFare(int minutes, int place) {
        return minutes < 1 || minutes > 240 || place < 0 || place > 99;
    }

    private void serve(int cab, int minutes, int place) {
        Cab c = day.cabs.get(cab);
        day.rows.get(c.rank).remove(Integer.valueOf(cab));
        c.state = 3;
        c.place = place;
        c.due = day.minute + minutes;
        c.earned += pay(minutes, 0);
        c.wish = NONE;
    }

    int take(int rank, int minutes, int place) {
        if (noRank(rank) || day.rows.get(rank).isEmpty() || noFare(minutes, place)) {
            return NONE;
        }
        int cab = day.rows.get(rank).get(0);
        serve(cab, minutes, place);
        if (town.shorts != null && minutes < town.shorts[0]) {
            day.cabs.get(cab).ticket = rank;
            day.cabs.get(cab).till = day.minute + town.shorts[1];
        }
        return cab;
    }

    int call(int cab, int minutes, int place) {
        if (noCab(cab) || day.cabs.get(cab).state != 2 || noFare(minutes, place)) {
            return 0;
        }
        int rank = day.cabs.get(cab).rank;
        passed(cab, rank, 2, day.rows.get(rank).indexOf(cab));
        serve(cab, minutes, place);
        return 1;
    }

    int refuse(int rank) {
        if (noRank(rank) || day.rows.get(rank).isEmpty()) {
            return NONE;
        }
        int cab = day.rows.get(rank).remove(0);
        passed(cab, rank, 3, day.rows.get(rank).size());
        day.rows.get(rank).add(cab);
        return cab;
    }

    int change(int one, int other) {
        for (List<Integer> row : day.rows) {
            int a = row.indexOf(one);
            int b = row.indexOf(other);
            if (a >= 0 && b >= 0 && a != b) {
                row.set(a, other);
                row.set(b, one);
                passed(one, day.rows.indexOf(row), 4, Math.abs(a - b));
                return 1;
            }
        }
        return 0;
    }

    int go(int n) {
        if (town == null || n < 1 || n > 300) {
            return NONE;
        }
        for (int k = 0; k < n; k++) {
            day.minute++;
            for (Cab c : day.cabs) {
                c.waited += c.state == 2 ? 1 : 0;
            }
            for (int cab = 0; cab < day.cabs.size(); cab++) {
                Cab c = day.cabs.get(cab);
                if ((c.state == 1 || c.state == 3) && c.due == day.minute) {
                    come(cab);
                }
            }
        }
        return day.minute;
    }

    int pass(int k, int what) {
        if (k == NONE) {
            return day.passes.size();
        }
        return k < 0 || k >= day.passes.size() || what < 0 || what > 4 ? NONE : day.passes.get(k)[what];
    }

    // ---- worth

    int chance(int rank, int q, int minutes, int to) {
        if (noRank(rank) || noRank(to) || q < 0 || q > 16 || minutes < 1 || minutes > 60) {
            return 0;
        }
        chances[rank] = new int[] {q, minutes, to};
        return 1;
    }

    private long worthOf(int rank, int n, int left) {
        if (left == 0) {
            return 0;
        }
        List<Integer> key = List.of(rank, n, left);
        if (!worths.containsKey(key)) {
            int[] c = chances[rank];
            long brings = 0;
            if (n > 0) {
                brings = worthOf(rank, n - 1, left - 1);
            } else if (c[0] > 0 && c[1] <= left) {
                brings = 1000L * pay(c[1], 0) + best(x(c[2]), left - c[1])[0];
            }
            long all = c[0] * brings + (16 - c[0]) * worthOf(rank, n, left - 1);
            worths.put(key, Math.toIntExact(all / 16));
        }
        return worths.get(key);
    }

    private long there(int rank, int place, int left) {
        int then = left - Math.abs(x(rank) - place);
        return then < 0 ? 0 : worthOf(rank, Math.min(9, day.rows.get(rank).size()), then);
    }

    private long[] best(int place, int left) {
        long[] best = {0, NONE};
        for (int rank = town.ranks.size() - 1; rank >= 0; rank--) {
            if (Math.abs(x(rank) - place) <= left && there(rank, place, left) >= best[0]) {
                best = new long[] {there(rank, place, left), rank};
            }
        }
        return best;
    }

    int worth(int rank, int ahead, int left) {
        if (noRank(rank) || ahead < 0 || ahead > 9 || left < 0 || left > 120) {
            return NONE;
        }
        worths.clear();
        return (int) worthOf(rank, ahead, left);
    }

    int going(int place, int left, int what) {
        if (town == null || place < 0 || place > 99 || left < 0 || left > 120 || what < 0 || what > 1) {
            return NONE;
        }
        worths.clear();
        return (int) best(place, left)[what];
    }

    int thumb(int thumb, int place, int left, int what) {
        if (thumb < 0 || thumb > 2 || going(place, left, what) == NONE && what != 1) {
            return NONE;
        }
        if (town == null || place < 0 || place > 99 || left < 0 || left > 120) {
            return NONE;
        }
        int rank = NONE;
        int least = Integer.MAX_VALUE;
        for (int r = 0; r < town.ranks.size(); r++) {
            int[] rules = {Math.abs(x(r) - place), day.rows.get(r).size(), 16 - chances[r][0]};
            if (rules[thumb] < least) {
                least = rules[thumb];
                rank = r;
            }
        }
        return what == 1 ? rank : (int) (best(place, left)[0] - there(rank, place, left));
    }

    // ---- people and plates

    int people(int rank, int many) {
        if (noRank(rank) || many < 0 || many > 20) {
            return 0;
        }
        day.people[rank] = many;
        return 1;
    }

    /** Brings one CAB after the other along the cheapest way that may undo earlier ones. */
    int brought(int what) {
        if (town == null || what < 0 || what > 1) {
            return NONE;
        }
        int n = town.ranks.size();
        int[] spare = new int[n];
        int[] wanted = new int[n];
        for (int r = 0; r < n; r++) {
            int over = day.rows.get(r).size() - day.people[r];
            spare[r] = Math.max(0, over);
            wanted[r] = Math.max(0, -over);
        }
        int[][] flow = new int[n][n];
        int many = 0;
        int cost = 0;
        while (true) {
            int[] dist = new int[n];
            int[] from = new int[n];
            Arrays.fill(dist, 99999);
            Arrays.fill(from, NONE);
            for (int r = 0; r < n; r++) {
                if (spare[r] > 0) {
                    dist[r] = 0;
                }
            }
            for (int round = 0; round <= n; round++) {
                for (int a = 0; a < n; a++) {
                    for (int b = 0; b < n; b++) {
                        int way = Math.abs(x(a) - x(b));
                        int step = flow[b][a] > 0 ? -way : way;
                        if (a != b && dist[a] < 99999 && dist[a] + step < dist[b]) {
                            dist[b] = dist[a] + step;
                            from[b] = a;
                        }
                    }
                }
            }
            int goal = NONE;
            for (int r = 0; r < n; r++) {
                if (wanted[r] > 0 && dist[r] < 99999 && (goal == NONE || dist[r] < dist[goal])) {
                    goal = r;
                }
            }
            if (goal == NONE) {
                return what == 0 ? many : cost;
            }
            many++;
            cost += dist[goal];
            wanted[goal]--;
            int at = goal;
            while (from[at] != NONE) {
                int a = from[at];
                if (flow[at][a] > 0) {
                    flow[at][a]--;
                } else {
                    flow[a][at]++;
                }
                at = a;
            }
            spare[at]--;
        }
    }

    int dead(int hour, int lifted) {
        if (town == null || hour < 0 || hour > 23 || lifted < 0 || lifted >= 1 << town.lets.size()) {
            return NONE;
        }
        int all = 0;
        for (Cab c : day.cabs) {
            int home = 100;
            for (int r = 0; c.state == 0 && r < town.ranks.size(); r++) {
                if (mayIf(r, c.zone, hour, lifted)) {
                    home = Math.min(home, Math.abs(c.place - x(r)));
                }
            }
            all += c.state == 0 ? home : 0;
        }
        return all;
    }

    int toLift(int hour, int most) {
        if (town == null || hour < 0 || hour > 23 || most < 0 || most > 2000) {
            return NONE;
        }
        for (int many = 0; many <= town.lets.size(); many++) {
            for (int heap = 0; heap < 1 << town.lets.size(); heap++) {
                if (Integer.bitCount(heap) == many && dead(hour, heap) <= most) {
                    return heap;
                }
            }
        }
        return NONE;
    }

    // ---- the book

    int reading(int rank, int minute, int cabs) {
        if (noRank(rank) || minute < 0 || cabs < 0 || book.size() == 12
                || !book.isEmpty() && minute < book.get(book.size() - 1).minute) {
            return NONE;
        }
        List<Integer> row = new ArrayList<>();
        for (char digit : (cabs == 0 ? "" : Integer.toString(cabs, 17)).toCharArray()) {
            int cab = Character.digit(digit, 17) - 1;
            if (noCab(cab) || row.contains(cab)) {
                return NONE;
            }
            row.add(cab);
        }
        if (row.size() > 6) {
            return NONE;
        }
        book.add(new Reading(rank, minute, row));
        return book.size();
    }

    int jumpers(int reading, int what) {
        if (reading < 0 || reading >= book.size() || what < 0 || what > 2) {
            return NONE;
        }
        Reading next = null;
        for (int k = book.size() - 1; k > reading; k--) {
            next = book.get(k).rank == book.get(reading).rank ? book.get(k) : next;
        }
        if (next == null) {
            return NONE;
        }
        List<Integer> one = new ArrayList<>(book.get(reading).cabs);
        List<Integer> two = new ArrayList<>(next.cabs);
        one.retainAll(next.cabs);
        two.retainAll(book.get(reading).cabs);
        int fewest = 99;
        int sure = 0;
        int heaps = 0;
        for (int heap = 0; heap < 1 << 16; heap++) {
            int many = Integer.bitCount(heap);
            if (many > fewest || many > one.size()) {
                continue;
            }
            List<Integer> gone = new ArrayList<>();
            for (int cab = 0; cab < 16; cab++) {
                if ((heap & 1 << cab) != 0) {
                    gone.add(cab);
                }
            }
            if (!one.containsAll(gone)) {
                continue;
            }
            List<Integer> a = new ArrayList<>(one);
            List<Integer> b = new ArrayList<>(two);
            a.removeAll(gone);
            b.removeAll(gone);
            if (a.equals(b)) {
                sure = many < fewest ? heap : sure & heap;
                heaps = many < fewest ? 1 : heaps + 1;
                fewest = many;
            }
        }
        return new int[] {fewest, sure, heaps}[what];
    }

    int cant(int reading) {
        for (int k = 0; k < reading && reading < book.size(); k++) {
            Reading a = book.get(k);
            Reading b = book.get(reading);
            boolean both = a.cabs.stream().anyMatch(b.cabs::contains);
            if (both && a.rank != b.rank && (long) b.minute - a.minute < Math.abs(x(a.rank) - x(b.rank))) {
                return k;
            }
        }
        return NONE;
    }

    // ---- rings

    int wish(int cab, int rank) {
        if (noCab(cab) || day.cabs.get(cab).state != 2 || day.cabs.get(cab).rank == rank || rank != NONE && noRank(rank)) {
            return 0;
        }
        day.cabs.get(cab).wish = rank;
        return 1;
    }

    int rings() {
        int wishing = 0;
        for (int cab = 0; cab < day.cabs.size(); cab++) {
            wishing |= day.cabs.get(cab).wish != NONE ? 1 << cab : 0;
        }
        int best = 0;
        // all heaps of those who wish, from the greatest number down, so that of like ones the least stays
        for (int heap = wishing; heap > 0; heap = (heap - 1) & wishing) {
            if (Integer.bitCount(heap) >= Integer.bitCount(best)) {
                int[] balance = new int[6];
                for (int cab = 0; cab < day.cabs.size(); cab++) {
                    if ((heap & 1 << cab) != 0) {
                        balance[day.cabs.get(cab).rank]--;
                        balance[day.cabs.get(cab).wish]++;
                    }
                }
                if (Arrays.equals(balance, new int[6])) {
                    best = heap;
                }
            }
        }
        return best;
    }

    int turn() {
        int ring = rings();
        Day before = day.copy();
        for (int r = 0; r < 6; r++) {
            List<Integer> comers = new ArrayList<>();
            for (int cab = 0; cab < before.cabs.size(); cab++) {
                if ((ring & 1 << cab) != 0 && before.cabs.get(cab).wish == r) {
                    comers.add(cab);
                }
            }
            for (int k = 0; k < before.rows.get(r).size(); k++) {
                if ((ring & 1 << before.rows.get(r).get(k)) != 0) {
                    int cab = comers.remove(0);
                    day.rows.get(r).set(k, cab);
                    day.cabs.get(cab).rank = r;
                    day.cabs.get(cab).wish = NONE;
                    day.cabs.get(cab).byTicket = false;
                }
            }
        }
        return Integer.bitCount(ring);
    }

    // ---- the rest

    int earned(int what) {
        if (day.cabs.isEmpty() || what < 0 || what > 2) {
            return NONE;
        }
        int most = day.cabs.stream().mapToInt(c -> c.earned).max().getAsInt();
        int least = day.cabs.stream().mapToInt(c -> c.earned).min().getAsInt();
        int all = day.cabs.stream().mapToInt(c -> c.earned).sum();
        return new int[] {most, least, all}[what];
    }

    int image(int k) {
        if (town == null || k < 0 || k > 2) {
            return 0;
        }
        images[k] = day.copy();
        return 1;
    }

    int back(int k) {
        if (k < 0 || k > 2 || images[k] == null) {
            return 0;
        }
        day = images[k].copy();
        return 1;
    }

    int count(int what) {
        if (what < 0 || what > 7) {
            return NONE;
        }
        int ranks = town == null ? 0 : town.ranks.size();
        int lets = town == null ? 0 : town.lets.size();
        int stand = (int) day.cabs.stream().filter(c -> c.state == 2).count();
        int empty = (int) day.cabs.stream().filter(c -> c.state == 0).count();
        return new int[] {ranks, lets, day.cabs.size(), day.minute, book.size(), text.length(), stand, empty}[what];
    }
}
