import java.util.Arrays;

/**
 * Cabs at the ranks of a city. The document DOC.md says, promise by promise, what each call
 * answers; its words in capital letters are the words of the comments here.
 */
public final class CabRanks {
    public static final int NONE = -1;

    private static final int MOST_BYTES = 500;
    private static final int FED_BYTES = 20;
    private static final int MOST_RANKS = 6;
    private static final int MOST_LETS = 8;
    private static final int MOST_CABS = 16;
    private static final int ZONES = 4;
    private static final int HOURS = 24;
    private static final int LAST_PLACE = 99;
    private static final int LONGEST_FARE = 240;
    private static final int LONGEST_WAIT = 240;
    private static final int LONGEST_GO = 300;
    private static final int MOST_PEOPLE = 20;
    private static final int MOST_DEAD = 2000;
    private static final int IMAGES = 3;

    private static final int EMPTY = 0;
    private static final int DRIVES = 1;
    private static final int STANDS = 2;
    private static final int BUSY = 3;

    private static final int BY_TICKET = 1;
    private static final int CALLED = 2;
    private static final int REFUSED = 3;
    private static final int CHANGED = 4;

    private final CityText text = new CityText();
    private City town = new City();
    private final Day today = new Day();
    private final Day[] images = new Day[IMAGES];
    private final boolean[] imageTaken = new boolean[IMAGES];
    private final Worths worths = new Worths();
    private final Bringing bringing = new Bringing();
    private final Homes homes = new Homes();
    private final Book book = new Book();
    private final RingSearch ringSearch = new RingSearch();

    public CabRanks() {
        for (int k = 0; k < IMAGES; k++) {
            images[k] = new Day();
        }
    }

    public int feed(int a, int b, int c, int d, int e) {
        if (text.length > MOST_BYTES - FED_BYTES) {
            return NONE;
        }
        text.append(a);
        text.append(b);
        text.append(c);
        text.append(d);
        text.append(e);
        return text.length;
    }

    public boolean end(int n) {
        if (!within(n, 0, text.length)) {
            return false;
        }
        text.length = n;
        return true;
    }

    public int fault() {
        return text.faultPlace();
    }

    public int city() {
        if (text.faultPlace() != NONE) {
            return NONE;
        }
        City before = town;
        town = text.draft;
        text.draft = before;
        text.length = 0;
        today.clear();
        worths.clear();
        book.readings = 0;
        for (int k = 0; k < IMAGES; k++) {
            imageTaken[k] = false;
        }
        return town.ranks;
    }

    public int rank(int rank, int what) {
        if (!hasRank(rank)) {
            return NONE;
        }
        switch (what) {
            case 0: return town.places[rank];
            case 1: return town.lineRoom[rank];
            case 2: return town.feederRoom[rank];
            case 3: return today.standing[rank];
            case 4: return today.waiting[rank];
            default: return NONE;
        }
    }

    public int may(int rank, int zone, int hour) {
        if (!hasRank(rank) || !within(zone, 0, ZONES - 1) || !within(hour, 0, HOURS - 1)) {
            return NONE;
        }
        return town.letsStand(rank, town.saying(zone, hour), 0) ? 1 : 0;
    }

    public int price(int minutes, int waited) {
        if (!hasCity() || !within(minutes, 1, LONGEST_FARE) || !within(waited, 0, LONGEST_WAIT)) {
            return NONE;
        }
        return town.priceOf(minutes, waited);
    }

    public int cab(int zone, int place) {
        if (!hasCity() || !within(zone, 0, ZONES - 1) || !within(place, 0, LAST_PLACE)) {
            return NONE;
        }
        return today.addCab(zone, place);
    }

    public int of(int cab, int what) {
        if (!today.has(cab)) {
            return NONE;
        }
        Cab asked = today.cabs[cab];
        switch (what) {
            case 0: return asked.state;
            case 1: return asked.seenPlace();
            case 2: return asked.rank;
            case 3: return today.placeInRow(cab);
            case 4: return asked.due;
            case 5: return asked.ticketRank;
            case 6: return asked.ticketEnd;
            case 7: return asked.gain;
            case 8: return asked.waited;
            case 9: return asked.wished;
            default: return NONE;
        }
    }

    public boolean drive(int cab, int rank) {
        if (!hasRank(rank) || !today.has(cab) || today.cabs[cab].state != EMPTY) {
            return false;
        }
        today.setOff(town, cab, rank);
        return true;
    }

    public int row(int rank, int k) {
        if (!hasRank(rank) || !within(k, 0, today.standing[rank] - 1)) {
            return NONE;
        }
        return today.rows[rank][k];
    }

    public int take(int rank, int minutes, int place) {
        if (!hasRank(rank) || today.standing[rank] == 0 || !isFare(minutes, place)) {
            return NONE;
        }
        int cab = today.rows[rank][0];
        today.serve(town, cab, minutes, place);
        if (minutes < town.shortMinutes) {
            today.cabs[cab].ticketRank = rank;
            today.cabs[cab].ticketEnd = today.minute + town.ticketMinutes;
        }
        return cab;
    }

    public boolean call(int cab, int minutes, int place) {
        if (!today.hasStanding(cab) || !isFare(minutes, place)) {
            return false;
        }
        today.tell(cab, CALLED, today.placeInRow(cab));
        today.serve(town, cab, minutes, place);
        return true;
    }

    public int refuse(int rank) {
        if (!hasRank(rank) || today.standing[rank] == 0) {
            return NONE;
        }
        int cab = today.rows[rank][0];
        int others = today.standing[rank] - 1;
        today.leaveRow(cab);
        today.putInRow(cab, rank, others);
        today.tell(cab, REFUSED, others);
        return cab;
    }

    public boolean change(int one, int other) {
        if (one == other || !today.hasStanding(one) || !today.hasStanding(other)) {
            return false;
        }
        int rank = today.cabs[one].rank;
        if (today.cabs[other].rank != rank) {
            return false;
        }
        int placeOfOne = today.placeInRow(one);
        int placeOfOther = today.placeInRow(other);
        today.rows[rank][placeOfOne] = other;
        today.rows[rank][placeOfOther] = one;
        today.tell(one, CHANGED, Math.abs(placeOfOne - placeOfOther));
        return true;
    }

    public int go(int n) {
        if (!hasCity() || !within(n, 1, LONGEST_GO)) {
            return NONE;
        }
        for (int gone = 0; gone < n; gone++) {
            today.passMinute(town);
        }
        return today.minute;
    }

    public int pass(int k, int what) {
        if (k == NONE) {
            return today.passes;
        }
        if (!within(k, 0, today.passes - 1) || !within(what, 0, Day.PASS_SIZE - 1)) {
            return NONE;
        }
        return today.told[k * Day.PASS_SIZE + what];
    }

    public boolean chance(int rank, int q, int minutes, int to) {
        if (!hasRank(rank) || !hasRank(to) || !within(q, 0, Worths.SURE) || !within(minutes, 1, Worths.LONGEST)) {
            return false;
        }
        worths.setChance(rank, q, minutes, to);
        return true;
    }

    public int worth(int rank, int ahead, int left) {
        if (!hasRank(rank) || !within(ahead, 0, Worths.MOST_AHEAD) || !within(left, 0, Worths.MOST_LEFT)) {
            return NONE;
        }
        worths.prepare(town, today, left);
        return worths.at(rank, ahead, left);
    }

    public int going(int place, int left, int what) {
        if (!isStart(place, left) || !within(what, 0, 1)) {
            return NONE;
        }
        worths.prepare(town, today, left);
        int best = worths.bestRank(town, place, left);
        return what == 1 ? best : worths.onComing(town, best, place, left);
    }

    public int thumb(int thumb, int place, int left, int what) {
        if (!within(thumb, 0, 2) || !isStart(place, left) || !within(what, 0, 1)) {
            return NONE;
        }
        int rank = thumbRank(thumb, place);
        if (what == 1) {
            return rank;
        }
        worths.prepare(town, today, left);
        int best = worths.bestRank(town, place, left);
        return worths.onComing(town, best, place, left) - worths.onComing(town, rank, place, left);
    }

    public boolean people(int rank, int many) {
        if (!hasRank(rank) || !within(many, 0, MOST_PEOPLE)) {
            return false;
        }
        today.waiting[rank] = many;
        return true;
    }

    public int brought(int what) {
        if (!hasCity() || !within(what, 0, 1)) {
            return NONE;
        }
        bringing.weigh(town, today);
        return what == 0 ? bringing.moved() : bringing.leastMinutes(town);
    }

    public int dead(int hour, int lifted) {
        if (!hasCity() || !within(hour, 0, HOURS - 1) || !within(lifted, 0, (1 << town.lets) - 1)) {
            return NONE;
        }
        homes.prepare(town, hour);
        return homes.deadWay(town, today, lifted);
    }

    public int toLift(int hour, int most) {
        if (!hasCity() || !within(hour, 0, HOURS - 1) || !within(most, 0, MOST_DEAD)) {
            return NONE;
        }
        homes.prepare(town, hour);
        return homes.fewestLifted(town, today, most);
    }

    public int reading(int rank, int minute, int cabs) {
        if (!hasRank(rank) || !book.add(rank, minute, cabs, today.cabCount)) {
            return NONE;
        }
        return book.readings;
    }

    public int jumpers(int reading, int what) {
        int next = book.nextOfRank(reading);
        if (next == NONE || !within(what, 0, 2)) {
            return NONE;
        }
        book.findJumpers(reading, next);
        switch (what) {
            case 0: return book.fewest;
            case 1: return book.sure;
            default: return book.heaps;
        }
    }

    public int cant(int reading) {
        return book.firstAgainst(town, reading);
    }

    public boolean wish(int cab, int rank) {
        if (!today.hasStanding(cab) || today.cabs[cab].rank == rank || (rank != NONE && !hasRank(rank))) {
            return false;
        }
        today.cabs[cab].wished = rank;
        return true;
    }

    public int rings() {
        return ringSearch.greatest(today);
    }

    public int turn() {
        int ring = ringSearch.greatest(today);
        today.turnRing(town, ring);
        return Integer.bitCount(ring);
    }

    public int earned(int what) {
        if (today.cabCount == 0 || !within(what, 0, 2)) {
            return NONE;
        }
        int most = today.cabs[0].gain;
        int least = most;
        int all = 0;
        for (int cab = 0; cab < today.cabCount; cab++) {
            int gain = today.cabs[cab].gain;
            most = Math.max(most, gain);
            least = Math.min(least, gain);
            all += gain;
        }
        if (what == 2) {
            return all;
        }
        return what == 0 ? most : least;
    }

    public boolean image(int k) {
        if (!hasCity() || !within(k, 0, IMAGES - 1)) {
            return false;
        }
        images[k].copyFrom(today);
        imageTaken[k] = true;
        return true;
    }

    public boolean back(int k) {
        if (!within(k, 0, IMAGES - 1) || !imageTaken[k]) {
            return false;
        }
        today.copyFrom(images[k]);
        return true;
    }

    public int count(int what) {
        switch (what) {
            case 0: return town.ranks;
            case 1: return town.lets;
            case 2: return today.cabCount;
            case 3: return today.minute;
            case 4: return book.readings;
            case 5: return text.length;
            case 6: return today.inState(STANDS);
            case 7: return today.inState(EMPTY);
            default: return NONE;
        }
    }

    private static boolean within(int number, int least, int most) {
        return number >= least && number <= most;
    }

    /** Every CITY has a RANK, so an object without RANKS has no CITY. */
    private boolean hasCity() {
        return town.ranks > 0;
    }

    private boolean hasRank(int rank) {
        return within(rank, 0, town.ranks - 1);
    }

    private static boolean isFare(int minutes, int place) {
        return within(minutes, 1, LONGEST_FARE) && within(place, 0, LAST_PLACE);
    }

    private boolean isStart(int place, int left) {
        return hasCity() && within(place, 0, LAST_PLACE) && within(left, 0, Worths.MOST_LEFT);
    }

    private int thumbRank(int thumb, int place) {
        int best = 0;
        for (int rank = 1; rank < town.ranks; rank++) {
            if (thumbBadness(thumb, rank, place) < thumbBadness(thumb, best, place)) {
                best = rank;
            }
        }
        return best;
    }

    private int thumbBadness(int thumb, int rank, int place) {
        switch (thumb) {
            case 0: return town.minutesTo(rank, place);
            case 1: return today.standing[rank];
            default: return -worths.chances[rank];
        }
    }

    /** What the text of a CITY tells, without the day that goes by in it. */
    private static final class City {
        int ranks;
        final int[] places = new int[MOST_RANKS];
        final int[] lineRoom = new int[MOST_RANKS];
        final int[] feederRoom = new int[MOST_RANKS];
        int lets;
        final int[] letsOf = new int[MOST_RANKS];
        final int[] letZone = new int[MOST_LETS];
        final int[] letFrom = new int[MOST_LETS];
        final int[] letTo = new int[MOST_LETS];
        int firstPrice;
        int stepPrice;
        int stepMinutes = 1;
        int waitPrice;
        int shortMinutes;
        int ticketMinutes;
        int coin = 1;

        void clear() {
            ranks = 0;
            lets = 0;
            Arrays.fill(letsOf, 0);
            shortMinutes = 0;
            ticketMinutes = 0;
            coin = 1;
        }

        int minutesTo(int rank, int place) {
            return Math.abs(places[rank] - place);
        }

        int room(int rank) {
            return lineRoom[rank] + feederRoom[rank];
        }

        /** The LETS, as bits, that let plates of a ZONE stand in an hour, each at its RANK. */
        int saying(int zone, int hour) {
            int bits = 0;
            for (int let = 0; let < lets; let++) {
                if (letZone[let] == zone && within(hour, letFrom[let], letTo[let])) {
                    bits |= 1 << let;
                }
            }
            return bits;
        }

        /** A RANK without LETS lets all, be it that it never had one or that all are lifted. */
        boolean letsStand(int rank, int saying, int lifted) {
            int left = letsOf[rank] & ~lifted;
            return left == 0 || (left & saying) != 0;
        }

        int priceOf(int minutes, int waited) {
            return roundUp(firstPrice + stepPrice * begun(minutes, stepMinutes) + waitPrice * waited, coin);
        }

        private static int roundUp(int amount, int unit) {
            return begun(amount, unit) * unit;
        }

        private static int begun(int amount, int unit) {
            return unit < 1 ? amount : (amount + unit - 1) / unit;
        }
    }

    /** The bytes of the text, and the reading of them into a draft of a CITY. */
    private static final class CityText {
        private static final int BETWEEN = 0;
        private static final int WORD = 1;
        private static final int NUMBER = 2;
        private static final int STOP = 3;
        private static final int OTHER = 4;
        private static final int END = 5;
        private static final int LONGEST_NAME = 8;
        /** Above every number that can be, and far from the end of an int. */
        private static final int TOO_GREAT = 100000;

        final byte[] bytes = new byte[MOST_BYTES];
        int length;
        City draft = new City();
        private final int[] nameStart = new int[MOST_RANKS];
        private final int[] nameLength = new int[MOST_RANKS];
        private boolean fareTold;
        private boolean shortTold;
        private boolean coinTold;
        private int at;
        private int start;
        private int kind;
        private int value;

        void append(int number) {
            for (int shift = 24; shift >= 0 && length < MOST_BYTES; shift -= 8) {
                bytes[length] = (byte) (number >> shift);
                length++;
            }
        }

        /** The FAULT; the draft holds the CITY if there is none. */
        int faultPlace() {
            draft.clear();
            fareTold = false;
            shortTold = false;
            coinTold = false;
            at = 0;
            for (int statement = 0; statement <= length; statement++) {
                readToken();
                if (kind == END) {
                    return draft.ranks > 0 && fareTold ? NONE : length;
                }
                if (!readStatement()) {
                    return start;
                }
            }
            return length;
        }

        private void readToken() {
            while (at < length && kindOf(bytes[at]) == BETWEEN) {
                at++;
            }
            start = at;
            if (at >= length) {
                kind = END;
                return;
            }
            kind = kindOf(bytes[at]);
            at++;
            while (at < length && (kind == WORD || kind == NUMBER) && kindOf(bytes[at]) == kind) {
                at++;
            }
        }

        private static int kindOf(byte sign) {
            if (sign >= 'a' && sign <= 'z') {
                return WORD;
            }
            if (sign >= '0' && sign <= '9') {
                return NUMBER;
            }
            if (sign == ';') {
                return STOP;
            }
            return sign == ' ' || sign == '\n' ? BETWEEN : OTHER;
        }

        /** False leaves the TOKEN that can't stand there as the last one read. */
        private boolean readStatement() {
            if (isWord("rank")) {
                return readRank();
            }
            if (isWord("let")) {
                return readLet();
            }
            if (isWord("fare")) {
                return readFare();
            }
            if (isWord("short")) {
                return readShort();
            }
            return isWord("coin") && readCoin();
        }

        private boolean readRank() {
            int rank = draft.ranks;
            if (rank >= MOST_RANKS) {
                return false;
            }
            readToken();
            if (!isName() || rankNamed() != NONE) {
                return false;
            }
            nameStart[rank] = start;
            nameLength[rank] = at - start;
            if (!readNumberWithin(0, LAST_PLACE) || placeTold(value)) {
                return false;
            }
            draft.places[rank] = value;
            if (!readNumberWithin(1, 9)) {
                return false;
            }
            draft.lineRoom[rank] = value;
            if (!readNumberWithin(0, 9)) {
                return false;
            }
            draft.feederRoom[rank] = value;
            draft.ranks++;
            return readStop();
        }

        private boolean readLet() {
            int let = draft.lets;
            if (let >= MOST_LETS) {
                return false;
            }
            readToken();
            int rank = kind == WORD ? rankNamed() : NONE;
            if (rank == NONE || !readNumberWithin(0, ZONES - 1)) {
                return false;
            }
            draft.letsOf[rank] |= 1 << let;
            draft.letZone[let] = value;
            if (!readNumberWithin(0, HOURS - 1)) {
                return false;
            }
            draft.letFrom[let] = value;
            if (!readNumberWithin(draft.letFrom[let], HOURS - 1)) {
                return false;
            }
            draft.letTo[let] = value;
            draft.lets++;
            return readStop();
        }

        private boolean readFare() {
            if (fareTold || !readNumberWithin(0, 999)) {
                return false;
            }
            fareTold = true;
            draft.firstPrice = value;
            if (!readNumberWithin(0, 999)) {
                return false;
            }
            draft.stepPrice = value;
            if (!readNumberWithin(1, 99)) {
                return false;
            }
            draft.stepMinutes = value;
            if (!readNumberWithin(0, 99)) {
                return false;
            }
            draft.waitPrice = value;
            return readStop();
        }

        private boolean readShort() {
            if (shortTold || !readNumberWithin(1, 99)) {
                return false;
            }
            shortTold = true;
            draft.shortMinutes = value;
            if (!readNumberWithin(0, 240)) {
                return false;
            }
            draft.ticketMinutes = value;
            return readStop();
        }

        private boolean readCoin() {
            if (coinTold || !readNumberWithin(1, 50)) {
                return false;
            }
            coinTold = true;
            draft.coin = value;
            return readStop();
        }

        private boolean readNumberWithin(int least, int most) {
            readToken();
            value = 0;
            for (int k = start; k < at && kind == NUMBER; k++) {
                value = Math.min(value * 10 + bytes[k] - '0', TOO_GREAT);
            }
            return kind == NUMBER && within(value, least, most);
        }

        private boolean readStop() {
            readToken();
            return kind == STOP;
        }

        private boolean isWord(String word) {
            if (kind != WORD || at - start != word.length()) {
                return false;
            }
            for (int k = 0; k < word.length(); k++) {
                if (bytes[start + k] != word.charAt(k)) {
                    return false;
                }
            }
            return true;
        }

        private boolean isName() {
            return kind == WORD && at - start <= LONGEST_NAME && !isWord("rank") && !isWord("let")
                    && !isWord("fare") && !isWord("short") && !isWord("coin");
        }

        /** The RANK told ahead whose NAME the last TOKEN is. */
        private int rankNamed() {
            for (int rank = 0; rank < draft.ranks; rank++) {
                if (nameLength[rank] == at - start && isSameAsAt(nameStart[rank])) {
                    return rank;
                }
            }
            return NONE;
        }

        private boolean isSameAsAt(int other) {
            for (int k = start; k < at; k++) {
                if (bytes[k] != bytes[other + k - start]) {
                    return false;
                }
            }
            return true;
        }

        private boolean placeTold(int place) {
            for (int rank = 0; rank < draft.ranks; rank++) {
                if (draft.places[rank] == place) {
                    return true;
                }
            }
            return false;
        }
    }

    private static final class Cab {
        int zone;
        int state;
        /** Where it is while EMPTY or STANDING, where it will be EMPTY while BUSY. */
        int place;
        int rank;
        int due;
        int ticketRank;
        int ticketEnd;
        int gain;
        int waited;
        int wished;
        /** Whether it came into the row in which it STANDS by TICKET. */
        boolean byTicket;

        void begin(int plates, int beginning) {
            zone = plates;
            ticketRank = NONE;
            ticketEnd = NONE;
            gain = 0;
            waited = 0;
            wished = NONE;
            byTicket = false;
            becomeEmpty(beginning);
        }

        void becomeEmpty(int where) {
            state = EMPTY;
            place = where;
            rank = NONE;
            due = NONE;
        }

        int seenPlace() {
            return state == EMPTY || state == STANDS ? place : NONE;
        }

        void copyFrom(Cab other) {
            zone = other.zone;
            state = other.state;
            place = other.place;
            rank = other.rank;
            due = other.due;
            ticketRank = other.ticketRank;
            ticketEnd = other.ticketEnd;
            gain = other.gain;
            waited = other.waited;
            wished = other.wished;
            byTicket = other.byTicket;
        }
    }

    /** All that an IMAGE holds: MINUTE, CABS with their WISHES, rows, PASSES and PEOPLE. */
    private static final class Day {
        static final int PASS_SIZE = 5;
        private static final int MOST_PASSES = 40;

        int minute;
        int cabCount;
        final Cab[] cabs = new Cab[MOST_CABS];
        /** By RANK: all CABS at most are in one row. */
        final int[][] rows = new int[MOST_RANKS][MOST_CABS];
        final int[] standing = new int[MOST_RANKS];
        final int[] waiting = new int[MOST_RANKS];
        int passes;
        final int[] told = new int[MOST_PASSES * PASS_SIZE];

        Day() {
            for (int cab = 0; cab < MOST_CABS; cab++) {
                cabs[cab] = new Cab();
            }
        }

        void clear() {
            minute = 0;
            cabCount = 0;
            passes = 0;
            Arrays.fill(standing, 0);
            Arrays.fill(waiting, 0);
        }

        void copyFrom(Day other) {
            minute = other.minute;
            cabCount = other.cabCount;
            for (int cab = 0; cab < cabCount; cab++) {
                cabs[cab].copyFrom(other.cabs[cab]);
            }
            for (int rank = 0; rank < MOST_RANKS; rank++) {
                standing[rank] = other.standing[rank];
                waiting[rank] = other.waiting[rank];
                System.arraycopy(other.rows[rank], 0, rows[rank], 0, standing[rank]);
            }
            passes = other.passes;
            System.arraycopy(other.told, 0, told, 0, passes * PASS_SIZE);
        }

        boolean has(int cab) {
            return within(cab, 0, cabCount - 1);
        }

        boolean hasStanding(int cab) {
            return has(cab) && cabs[cab].state == STANDS;
        }

        int inState(int state) {
            int many = 0;
            for (int cab = 0; cab < cabCount; cab++) {
                if (cabs[cab].state == state) {
                    many++;
                }
            }
            return many;
        }

        int addCab(int zone, int place) {
            if (cabCount >= MOST_CABS) {
                return NONE;
            }
            cabs[cabCount].begin(zone, place);
            cabCount++;
            return cabCount - 1;
        }

        int placeInRow(int cab) {
            if (!hasStanding(cab)) {
                return NONE;
            }
            int rank = cabs[cab].rank;
            for (int k = 0; k < standing[rank]; k++) {
                if (rows[rank][k] == cab) {
                    return k;
                }
            }
            return NONE;
        }

        void setOff(City city, int cab, int rank) {
            int minutes = city.minutesTo(rank, cabs[cab].place);
            cabs[cab].state = DRIVES;
            cabs[cab].rank = rank;
            cabs[cab].due = minute + minutes;
            if (minutes == 0) {
                comeToRank(city, cab);
            }
        }

        void passMinute(City city) {
            minute++;
            for (int cab = 0; cab < cabCount; cab++) {
                if (cabs[cab].state == STANDS) {
                    cabs[cab].waited++;
                }
            }
            for (int cab = 0; cab < cabCount; cab++) {
                if (cabs[cab].due == minute) {
                    come(city, cab);
                }
            }
        }

        private void come(City city, int cab) {
            if (cabs[cab].state == DRIVES) {
                comeToRank(city, cab);
            } else if (cabs[cab].state == BUSY) {
                cabs[cab].becomeEmpty(cabs[cab].place);
            }
        }

        private void comeToRank(City city, int cab) {
            Cab comer = cabs[cab];
            int rank = comer.rank;
            comer.becomeEmpty(city.places[rank]);
            int saying = city.saying(comer.zone, minute / 60 % HOURS);
            if (!city.letsStand(rank, saying, 0) || standing[rank] >= city.room(rank)) {
                return;
            }
            boolean byTicket = comer.ticketRank == rank && minute <= comer.ticketEnd;
            int k = byTicket ? behindTickets(rank) : standing[rank];
            putInRow(cab, rank, k);
            comer.byTicket = byTicket;
            if (byTicket) {
                comer.ticketRank = NONE;
                comer.ticketEnd = NONE;
                tell(cab, BY_TICKET, standing[rank] - 1 - k);
            }
        }

        private int behindTickets(int rank) {
            for (int k = 0; k < standing[rank]; k++) {
                if (!cabs[rows[rank][k]].byTicket) {
                    return k;
                }
            }
            return standing[rank];
        }

        void putInRow(int cab, int rank, int k) {
            if (standing[rank] >= MOST_CABS || !within(k, 0, standing[rank])) {
                return;
            }
            for (int behind = standing[rank]; behind > k; behind--) {
                rows[rank][behind] = rows[rank][behind - 1];
            }
            rows[rank][k] = cab;
            standing[rank]++;
            cabs[cab].state = STANDS;
            cabs[cab].rank = rank;
        }

        void leaveRow(int cab) {
            int k = placeInRow(cab);
            if (k == NONE) {
                return;
            }
            int rank = cabs[cab].rank;
            standing[rank]--;
            System.arraycopy(rows[rank], k + 1, rows[rank], k, standing[rank] - k);
        }

        /** Takes a CAB from its row for a FARE; a WISH is of those alone who STAND. */
        void serve(City city, int cab, int minutes, int place) {
            leaveRow(cab);
            Cab server = cabs[cab];
            server.state = BUSY;
            server.place = place;
            server.rank = NONE;
            server.due = minute + minutes;
            server.gain += city.priceOf(minutes, 0);
            server.wished = NONE;
        }

        /** Tells a PASS of a CAB that STANDS; of more than 40 the earliest is forgotten. */
        void tell(int cab, int law, int many) {
            if (many <= 0) {
                return;
            }
            if (passes >= MOST_PASSES) {
                passes = MOST_PASSES - 1;
                System.arraycopy(told, PASS_SIZE, told, 0, passes * PASS_SIZE);
            }
            int first = passes * PASS_SIZE;
            told[first] = minute;
            told[first + 1] = cab;
            told[first + 2] = cabs[cab].rank;
            told[first + 3] = law;
            told[first + 4] = many;
            passes++;
        }

        /** All leave their places first, so that one who comes finds all that are free. */
        void turnRing(City city, int ring) {
            for (int cab = 0; cab < cabCount; cab++) {
                int k = placeInRow(cab);
                if ((ring >> cab & 1) == 1 && k != NONE) {
                    rows[cabs[cab].rank][k] = NONE;
                }
            }
            for (int cab = 0; cab < cabCount; cab++) {
                if ((ring >> cab & 1) == 1) {
                    takeFreePlace(city, cab);
                }
            }
        }

        private void takeFreePlace(City city, int cab) {
            Cab comer = cabs[cab];
            int rank = comer.wished;
            if (!within(rank, 0, MOST_RANKS - 1)) {
                return;
            }
            int k = 0;
            while (k < standing[rank] && rows[rank][k] != NONE) {
                k++;
            }
            if (k >= standing[rank]) {
                return;
            }
            rows[rank][k] = cab;
            comer.rank = rank;
            comer.place = city.places[rank];
            comer.wished = NONE;
            comer.byTicket = false;
        }
    }

    /** CHANCES, and the table of WORTH that they and those who STAND now make. */
    private static final class Worths {
        static final int SURE = 16;
        static final int LONGEST = 60;
        static final int MOST_AHEAD = 9;
        static final int MOST_LEFT = 120;
        private static final int AHEADS = MOST_AHEAD + 1;
        private static final int LAYER = MOST_RANKS * AHEADS;

        final int[] chances = new int[MOST_RANKS];
        private final int[] minutes = new int[MOST_RANKS];
        private final int[] goal = new int[MOST_RANKS];
        private final int[] ahead = new int[MOST_RANKS];
        /** By minutes left, RANK and how many are ahead; the layers below 'filled' hold. */
        private final int[] table = new int[(MOST_LEFT + 1) * LAYER];
        private int filled;

        void clear() {
            Arrays.fill(chances, 0);
            filled = 0;
        }

        void setChance(int rank, int q, int fareMinutes, int to) {
            chances[rank] = q;
            minutes[rank] = fareMinutes;
            goal[rank] = to;
            filled = 0;
        }

        int at(int rank, int many, int left) {
            return table[left * LAYER + rank * AHEADS + many];
        }

        /** Fills the table for so many minutes left; it stays good while as many STAND at each RANK. */
        void prepare(City city, Day day, int left) {
            for (int rank = 0; rank < MOST_RANKS; rank++) {
                int many = Math.min(day.standing[rank], MOST_AHEAD);
                if (ahead[rank] != many) {
                    ahead[rank] = many;
                    filled = 0;
                }
            }
            while (filled <= left) {
                for (int rank = 0; rank < city.ranks; rank++) {
                    fillRank(city, rank, filled);
                }
                filled++;
            }
        }

        private void fillRank(City city, int rank, int left) {
            int first = left * LAYER + rank * AHEADS;
            int brings = fareBrings(city, rank, left);
            for (int many = 0; many < AHEADS; many++) {
                int stays = left == 0 ? 0 : at(rank, many, left - 1);
                // a long, since sixteen times a WORTH may be more than an int holds
                long sixteenfold = (long) chances[rank] * brings + (long) (SURE - chances[rank]) * stays;
                table[first + many] = (int) (sixteenfold / SURE);
                brings = stays;
            }
        }

        private int fareBrings(City city, int rank, int left) {
            int then = left - minutes[rank];
            if (chances[rank] == 0 || then < 0) {
                return 0;
            }
            int place = city.places[goal[rank]];
            int best = bestRank(city, place, then);
            return 1000 * city.priceOf(minutes[rank], 0) + onComing(city, best, place, then);
        }

        /** The RANK to which one GOES. */
        int bestRank(City city, int place, int left) {
            int best = NONE;
            int most = NONE;
            for (int rank = 0; rank < city.ranks; rank++) {
                int then = left - city.minutesTo(rank, place);
                if (then >= 0 && at(rank, ahead[rank], then) > most) {
                    best = rank;
                    most = at(rank, ahead[rank], then);
                }
            }
            return best;
        }

        /** WORTH behind those who STAND at a RANK now, on coming there; 0 if it is too far, or none. */
        int onComing(City city, int rank, int place, int left) {
            if (rank == NONE) {
                return 0;
            }
            int then = left - city.minutesTo(rank, place);
            return then < 0 ? 0 : at(rank, ahead[rank], then);
        }
    }

    /**
     * How CABS are BROUGHT. The RANKS lie on a line, so that what is brought is known by how many
     * go over each stretch between neighbours, either way; a stretch costs its minutes for each.
     */
    private static final class Bringing {
        /** No more than all CABS go over a stretch. */
        private static final int BALANCES = 2 * MOST_CABS + 1;
        private static final int NEVER = 1000000;

        private final int[] over = new int[MOST_RANKS];
        private final int[] order = new int[MOST_RANKS];
        private int spare;
        private int wanted;
        private int[] cost = new int[BALANCES];
        private int[] nextCost = new int[BALANCES];

        void weigh(City city, Day day) {
            spare = 0;
            wanted = 0;
            for (int rank = 0; rank < city.ranks; rank++) {
                over[rank] = day.standing[rank] - day.waiting[rank];
                spare += Math.max(over[rank], 0);
                wanted += Math.max(-over[rank], 0);
                order[placesBelow(city, city.places[rank])] = rank;
            }
        }

        private static int placesBelow(City city, int place) {
            int many = 0;
            for (int rank = 0; rank < city.ranks; rank++) {
                if (city.places[rank] < place) {
                    many++;
                }
            }
            return many;
        }

        int moved() {
            return Math.min(spare, wanted);
        }

        /** Whichever of SPARE and WANTED is less goes whole, the other as it costs least. */
        int leastMinutes(City city) {
            Arrays.fill(cost, NEVER);
            cost[MOST_CABS] = 0;
            for (int k = 0; k < city.ranks; k++) {
                int rank = order[k];
                int stretch = k + 1 < city.ranks ? city.places[order[k + 1]] - city.places[rank] : 0;
                Arrays.fill(nextCost, NEVER);
                boolean whole = over[rank] > 0 ? spare <= wanted : wanted <= spare;
                int least = whole ? over[rank] : Math.min(over[rank], 0);
                int most = whole ? over[rank] : Math.max(over[rank], 0);
                for (int sent = least; sent <= most; sent++) {
                    send(sent, stretch);
                }
                int[] done = cost;
                cost = nextCost;
                nextCost = done;
            }
            return cost[MOST_CABS];
        }

        private void send(int sent, int stretch) {
            for (int from = 0; from < BALANCES; from++) {
                int to = from + sent;
                if (cost[from] < NEVER && within(to, 0, BALANCES - 1)) {
                    int all = cost[from] + Math.abs(to - MOST_CABS) * stretch;
                    nextCost[to] = Math.min(nextCost[to], all);
                }
            }
        }
    }

    /** DEAD minutes of the EMPTY in an hour, and TO LIFT. */
    private static final class Homes {
        private static final int WITHOUT = 100;

        private final int[] saying = new int[ZONES];

        void prepare(City city, int hour) {
            for (int zone = 0; zone < ZONES; zone++) {
                saying[zone] = city.saying(zone, hour);
            }
        }

        int deadWay(City city, Day day, int lifted) {
            int all = 0;
            for (int cab = 0; cab < day.cabCount; cab++) {
                if (day.cabs[cab].state == EMPTY) {
                    all += wayHome(city, day.cabs[cab], lifted);
                }
            }
            return all;
        }

        private int wayHome(City city, Cab cab, int lifted) {
            int least = WITHOUT;
            for (int rank = 0; rank < city.ranks; rank++) {
                if (city.letsStand(rank, saying[cab.zone], lifted)) {
                    least = Math.min(least, city.minutesTo(rank, cab.place));
                }
            }
            return least;
        }

        int fewestLifted(City city, Day day, int most) {
            int best = NONE;
            int fewest = MOST_LETS + 1;
            for (int lifted = 0; lifted < 1 << city.lets; lifted++) {
                int many = Integer.bitCount(lifted);
                if (many < fewest && deadWay(city, day, lifted) <= most) {
                    best = lifted;
                    fewest = many;
                }
            }
            return best;
        }
    }

    /** A marshal's BOOK. */
    private static final class Book {
        private static final int MOST_READINGS = 12;
        private static final int MOST_SEEN = 6;
        private static final int DIGIT = MOST_CABS + 1;

        int readings;
        /** Of the last findJumpers. */
        int fewest;
        int sure;
        int heaps;
        private final int[] ranks = new int[MOST_READINGS];
        private final int[] minutes = new int[MOST_READINGS];
        private final int[] sizes = new int[MOST_READINGS];
        private final int[] bits = new int[MOST_READINGS];
        private final int[][] seen = new int[MOST_READINGS][MOST_SEEN];
        private final int[] common = new int[MOST_SEEN];
        private final int[] placeInNext = new int[MOST_SEEN];

        boolean add(int rank, int minute, int digits, int cabCount) {
            if (readings >= MOST_READINGS) {
                return false;
            }
            int least = readings == 0 ? 0 : minutes[readings - 1];
            if (minute < least || !readDigits(digits, cabCount)) {
                return false;
            }
            ranks[readings] = rank;
            minutes[readings] = minute;
            readings++;
            return true;
        }

        /** Writes into the next reading's place, which counts only once 'readings' does. */
        private boolean readDigits(int digits, int cabCount) {
            int size = digitsIn(digits);
            if (digits < 0 || size > MOST_SEEN) {
                return false;
            }
            int rest = digits;
            int met = 0;
            for (int k = size - 1; k >= 0; k--) {
                int cab = rest % DIGIT - 1;
                rest /= DIGIT;
                if (!within(cab, 0, cabCount - 1) || (met >> cab & 1) == 1) {
                    return false;
                }
                met |= 1 << cab;
                seen[readings][k] = cab;
            }
            sizes[readings] = size;
            bits[readings] = met;
            return true;
        }

        private static int digitsIn(int digits) {
            int many = 0;
            for (int rest = digits; rest > 0; rest /= DIGIT) {
                many++;
            }
            return many;
        }

        int nextOfRank(int reading) {
            if (!within(reading, 0, readings - 1)) {
                return NONE;
            }
            for (int next = reading + 1; next < readings; next++) {
                if (ranks[next] == ranks[reading]) {
                    return next;
                }
            }
            return NONE;
        }

        /** Tries every heap of the CABS that are in both: there are 64 at most. */
        void findJumpers(int reading, int next) {
            int size = findCommon(reading, next);
            fewest = MOST_SEEN + 1;
            for (int heap = 0; heap < 1 << size; heap++) {
                int many = Integer.bitCount(heap);
                if (many <= fewest && isOrderedWithout(heap, size)) {
                    if (many < fewest) {
                        fewest = many;
                        heaps = 0;
                        sure = ~0;
                    }
                    heaps++;
                    sure &= cabsOf(heap, size);
                }
            }
        }

        private int findCommon(int reading, int next) {
            int size = 0;
            for (int k = 0; k < sizes[reading]; k++) {
                for (int j = 0; j < sizes[next]; j++) {
                    if (seen[reading][k] == seen[next][j]) {
                        common[size] = seen[reading][k];
                        placeInNext[size] = j;
                        size++;
                    }
                }
            }
            return size;
        }

        private boolean isOrderedWithout(int heap, int size) {
            int last = NONE;
            for (int k = 0; k < size; k++) {
                if ((heap >> k & 1) == 0) {
                    if (placeInNext[k] < last) {
                        return false;
                    }
                    last = placeInNext[k];
                }
            }
            return true;
        }

        private int cabsOf(int heap, int size) {
            int cabs = 0;
            for (int k = 0; k < size; k++) {
                if ((heap >> k & 1) == 1) {
                    cabs |= 1 << common[k];
                }
            }
            return cabs;
        }

        int firstAgainst(City city, int reading) {
            if (!within(reading, 0, readings - 1)) {
                return NONE;
            }
            for (int ahead = 0; ahead < reading; ahead++) {
                int way = city.minutesTo(ranks[reading], city.places[ranks[ahead]]);
                if ((bits[ahead] & bits[reading]) != 0 && minutes[reading] - minutes[ahead] < way) {
                    return ahead;
                }
            }
            return NONE;
        }
    }

    /**
     * Finds the GREATEST of RINGS. A WISH is an arrow between two RANKS, worth much, but less by
     * its CAB's bit, so that the dearest ring is the GREATEST. CABS are offered one by one: with
     * the ring of those before being the dearest, the next one's is either the same or differs
     * from it by the dearest round through the new arrow, over arrows not chosen (forward) and
     * chosen ones (backward, giving them up).
     */
    private static final class RingSearch {
        private static final int FULL_WORTH = 1 << 20;
        private static final int NEVER = -(1 << 28);

        private final int[] best = new int[MOST_RANKS];
        private final int[] via = new int[MOST_RANKS];
        private int chosen;

        int greatest(Day day) {
            chosen = 0;
            for (int cab = 0; cab < day.cabCount; cab++) {
                if (wishes(day, cab)) {
                    offer(day, cab);
                }
            }
            return chosen;
        }

        private static boolean wishes(Day day, int cab) {
            return day.cabs[cab].state == STANDS && day.cabs[cab].wished != NONE;
        }

        private static int worthOf(int cab) {
            return FULL_WORTH - (1 << cab);
        }

        private boolean isChosen(int cab) {
            return (chosen >> cab & 1) == 1;
        }

        private int tail(Day day, int cab) {
            return isChosen(cab) ? day.cabs[cab].wished : day.cabs[cab].rank;
        }

        private int head(Day day, int cab) {
            return isChosen(cab) ? day.cabs[cab].rank : day.cabs[cab].wished;
        }

        private void offer(Day day, int cab) {
            int start = day.cabs[cab].wished;
            int goal = day.cabs[cab].rank;
            findWays(day, start, cab);
            if (best[goal] == NEVER || best[goal] + worthOf(cab) <= 0) {
                return;
            }
            int at = goal;
            for (int step = 0; step < MOST_RANKS && at != start; step++) {
                int arrow = via[at];
                at = tail(day, arrow);
                chosen ^= 1 << arrow;
            }
            chosen |= 1 << cab;
        }

        /**
         * The dearest ways from a RANK over the arrows of the CABS below one. No round gains, so
         * that a way needs fewer steps than there are RANKS.
         */
        private void findWays(Day day, int start, int below) {
            Arrays.fill(best, NEVER);
            best[start] = 0;
            boolean changed = true;
            for (int step = 1; step < MOST_RANKS && changed; step++) {
                changed = false;
                for (int cab = 0; cab < below; cab++) {
                    changed |= wishes(day, cab) && follow(day, cab);
                }
            }
        }

        private boolean follow(Day day, int cab) {
            int from = tail(day, cab);
            int to = head(day, cab);
            int gain = isChosen(cab) ? -worthOf(cab) : worthOf(cab);
            if (best[from] == NEVER || best[from] + gain <= best[to]) {
                return false;
            }
            best[to] = best[from] + gain;
            via[to] = cab;
            return true;
        }
    }
}
