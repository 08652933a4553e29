/** A boat on a river of tolls: what the document DOC.md promises, one method a promise. */
public final class RiverTolls {
    public static final int BAD = -1, STATE = -2, FULL = -3, NONE = -9;
    public static final int NO = -1000000;

    private static final int MOST_ROCKS = 8;
    private static final int MOST_LETTERS = 200;
    private static final int MOST_LORD = 3;
    private static final int MOST_BARRELS = 30;
    private static final int MOST_PRICE = 30;
    private static final int MOST_TOLL = 9;
    private static final int MOST_NIGHT = 9999;
    private static final int MOST_COST = 9999;
    private static final int MOST_TOLD_COINS = 900;
    private static final int MOST_COINS = 999999;
    private static final int MOST_LEFT = 6;
    private static final int MOST_UNDONE = 10;
    private static final int IMAGES = 2;

    private static final int TOLL = 0, MEASURE = 1, LORD = 2, WATCH = 3, LAND = 4, BROKEN = 5;
    private static final int FACTS = 5;

    /** The bit of took() behind those of the rocks: no rock took a coin too many. */
    private static final int NO_ROCK = 8;

    private final Text text;
    private final Reader reader;
    private final River draft;
    private final River told;
    private final Boat boat;
    private final Past past;
    private final Boat[] images;
    private final int[] kept;
    private final Route route;
    private final int[] leftBehind;
    private final int[] leftCoins;
    private int leftCount;
    private long traced;

    public RiverTolls() {
        text = new Text();
        reader = new Reader(text);
        draft = new River();
        told = new River();
        boat = new Boat();
        past = new Past();
        images = new Boat[IMAGES];
        for (int image = 0; image < IMAGES && image < images.length; image++) {
            images[image] = new Boat();
        }
        kept = new int[IMAGES];
        route = new Route(told);
        leftBehind = new int[MOST_LEFT];
        leftCoins = new int[MOST_LEFT];
        leftCount = 0;
        traced = 0;
        boat.start(told);
    }

    // ---- the river

    public int type(int letter) {
        if (letter < 0 || letter > 255) {
            return BAD;
        }
        if (text.length >= MOST_LETTERS) {
            return FULL;
        }
        text.append(letter);
        return text.length;
    }

    public int clear() {
        int had = text.length;
        text.length = 0;
        return had;
    }

    public int river() {
        int fault = reader.read(draft);
        if (fault != Reader.NO_FAULT) {
            return -10 - fault;
        }
        told.become(draft);
        boat.start(told);
        past.forgetAll();
        for (int image = 0; image < IMAGES; image++) {
            Row.put(kept, image, 0);
        }
        leftCount = 0;
        text.length = 0;
        return told.items;
    }

    public int rock(int r, int what) {
        if (!isRock(r) || what < TOLL || what > BROKEN) {
            return BAD;
        }
        if (what == TOLL) {
            return boat.tollOf(r);
        }
        if (what == BROKEN) {
            return boat.isBroken(r) ? 1 : 0;
        }
        return told.fact(r, what);
    }

    public int takes(int r, int n) {
        if (!isRock(r) || n < 0 || n > MOST_BARRELS) {
            return BAD;
        }
        return priceOf(r, n);
    }

    public int now(int what) {
        switch (what) {
            case 0:
                return boat.at;
            case 1:
                return boat.barrels;
            case 2:
                return boat.coins;
            case 3:
                return boat.letter;
            case 4:
                return boat.seized;
            case 5:
                return isAtSea() ? NONE : dueHere();
            case 6:
                return past.known;
            default:
                return BAD;
        }
    }

    public int got(int lord) {
        return isLord(lord) ? Row.get(boat.gains, lord) : BAD;
    }

    // ---- what is done

    public int pays() {
        if (isAtSea()) {
            return STATE;
        }
        int due = dueHere();
        if (due > boat.coins) {
            return STATE;
        }
        past.remember(boat);
        int lord = told.fact(boat.at, LORD);
        boat.coins -= due;
        Row.put(boat.gains, lord, Row.get(boat.gains, lord) + due);
        goOn(due > 0 ? lord : NONE);
        return due;
    }

    public int lands() {
        if (isAtSea()) {
            return STATE;
        }
        int cost = told.fact(boat.at, LAND) * boat.barrels;
        if (cost > boat.coins) {
            return STATE;
        }
        past.remember(boat);
        boat.coins -= cost;
        goOn(NONE);
        return cost;
    }

    public int nights(int z) {
        if (z < 0 || z > MOST_NIGHT) {
            return BAD;
        }
        if (isAtSea()) {
            return STATE;
        }
        past.remember(boat);
        boolean seen = draw(z, boat.at) % 10 < told.fact(boat.at, WATCH);
        int seized = seen ? boat.barrels - boat.barrels / 2 : 0;
        boat.barrels -= seized;
        boat.seized += seized;
        goOn(NONE);
        return seized;
    }

    public int sells(int n, int p) {
        if (n < 1 || n > MOST_BARRELS || p < 0 || p > MOST_PRICE) {
            return BAD;
        }
        int coins = boat.coins + n * p;
        if (n > boat.barrels || coins > MOST_COINS) {
            return STATE;
        }
        past.remember(boat);
        boat.barrels -= n;
        boat.coins = coins;
        return coins;
    }

    public int sets(int r, int t) {
        if (!isRock(r) || t < 0 || t > MOST_TOLL) {
            return BAD;
        }
        past.remember(boat);
        int till = boat.tollOf(r);
        Row.put(boat.tolls, r, t);
        return till;
    }

    public int breaks(int r) {
        if (!isRock(r)) {
            return BAD;
        }
        if (boat.isBroken(r)) {
            return STATE;
        }
        past.remember(boat);
        boat.broken |= 1 << r;
        return Integer.bitCount(boat.broken);
    }

    public int undo() {
        if (past.known == 0) {
            return STATE;
        }
        past.restore(boat);
        return past.known;
    }

    // ---- the way

    public int way(int r) {
        if (r < -1 || r >= told.rocks) {
            return BAD;
        }
        if (r != -1 && r < boat.at) {
            return NONE;
        }
        findWay();
        return r == -1 ? route.total : Row.get(route.byLand, r);
    }

    public int enough() {
        findWay();
        return route.total <= boat.coins ? 1 : 0;
    }

    public int toBreak(int c) {
        if (c < 0 || c > MOST_COST) {
            return BAD;
        }
        int ahead = bitsAhead();
        for (int size = 0; size <= MOST_ROCKS; size++) {
            for (int set = 0; set < 1 << MOST_ROCKS; set++) {
                boolean fits = Integer.bitCount(set) == size && (set & ~ahead) == 0;
                if (fits && costIfBroken(set) <= c) {
                    return set;
                }
            }
        }
        return ahead;
    }

    public int byLord(int lord) {
        if (!isLord(lord)) {
            return BAD;
        }
        findWay();
        int sum = 0;
        for (int r = boat.at; r < told.rocks; r++) {
            if (told.fact(r, LORD) == lord) {
                sum += Row.get(route.paid, r);
            }
        }
        return sum;
    }

    // ---- tolls

    public int most(int r, int what) {
        if (!isRock(r) || what < 0 || what > 1) {
            return BAD;
        }
        if (r < boat.at || boat.isBroken(r)) {
            return NONE;
        }
        int bestToll = 0;
        int bestSum = 0;
        for (int toll = 0; toll <= MOST_TOLL; toll++) {
            int sum = paidIfToll(r, toll);
            if (sum > bestSum) {
                bestToll = toll;
                bestSum = sum;
            }
        }
        return what == 0 ? bestToll : bestSum;
    }

    public int still() {
        int bits = 0;
        for (int r = boat.at; r < told.rocks; r++) {
            int toll = boat.tollOf(r);
            if (paidIfToll(r, toll) > 0 && paidIfToll(r, toll + 1) > 0) {
                bits |= 1 << r;
            }
        }
        return bits;
    }

    public int cheap(int r, int what) {
        if (!isRock(r) || what < 0 || what > 2) {
            return BAD;
        }
        int barrels = 1;
        for (int n = 2; n <= MOST_BARRELS; n++) {
            if (priceOf(r, n) * barrels < priceOf(r, barrels) * n) {
                barrels = n;
            }
        }
        if (what == 0) {
            return barrels;
        }
        int price = priceOf(r, barrels);
        return what == 1 ? Sums.inLeastTerms(price, barrels) : Sums.inLeastTerms(barrels, price);
    }

    public int two(int what) {
        if (what < 0 || what > 1) {
            return BAD;
        }
        if (boat.barrels < 2) {
            return NONE;
        }
        int best = 1;
        int least = costOf(1) + costOf(boat.barrels - 1);
        for (int x = 2; x <= boat.barrels / 2; x++) {
            int cost = costOf(x) + costOf(boat.barrels - x);
            if (cost < least) {
                best = x;
                least = cost;
            }
        }
        return what == 0 ? best : least;
    }

    public int one() {
        if (boat.barrels <= 0) {
            return NONE;
        }
        findWay();
        return Sums.upward(route.total, boat.barrels);
    }

    // ---- what was left, odds

    public int left(int k, int v) {
        if (k < 0 || k > MOST_ROCKS || v < 0 || v > MOST_TOLD_COINS) {
            return BAD;
        }
        if (leftCount >= MOST_LEFT) {
            return FULL;
        }
        Row.put(leftBehind, leftCount, k);
        Row.put(leftCoins, leftCount, v);
        leftCount++;
        return leftCount;
    }

    public int forget() {
        int had = leftCount;
        leftCount = 0;
        return had;
    }

    public int took() {
        findWay();
        int bits = 0;
        for (int r = boat.at; r < told.rocks; r++) {
            if (allLeftIfTook(r)) {
                bits |= 1 << r;
            }
        }
        if (allLeftIfTook(NO_ROCK)) {
            bits |= 1 << NO_ROCK;
        }
        return bits;
    }

    public int odds(int set, int what) {
        if (set < 0 || set >= 1 << told.rocks || what < 0 || what > 1) {
            return BAD;
        }
        int upper = 1;
        int lower = 1;
        for (int r = boat.at; r < told.rocks; r++) {
            if ((set >> r & 1) == 1) {
                upper *= 10 - told.fact(r, WATCH);
                lower *= 10;
            }
        }
        return what == 0 ? Sums.inLeastTerms(upper, lower) : Sums.inLeastTerms(lower, upper);
    }

    // ---- kinds, images

    public int rate(int kind, int r) {
        if (!isRock(r)) {
            return NO;
        }
        switch (kind) {
            case 0:
                return asRock(r);
            case 1:
                return asChain(r);
            case 2:
                return asTower(r);
            case 3:
                return asBridge(r);
            case 4:
                return asIsle(r);
            case 5:
                return asBend(r);
            default:
                return NO;
        }
    }

    public int keep(int image) {
        Boat place = imageOf(image);
        if (place == null) {
            return BAD;
        }
        place.become(boat);
        Row.put(kept, image, 1);
        return boat.at;
    }

    public int back(int image) {
        Boat place = imageOf(image);
        if (place == null) {
            return BAD;
        }
        if (Row.get(kept, image) == 0) {
            return STATE;
        }
        boat.become(place);
        past.forgetAll();
        return boat.at;
    }

    public int count(int what) {
        switch (what) {
            case 0:
                return told.rocks;
            case 1:
                return leftCount;
            case 2:
                return text.length;
            default:
                return BAD;
        }
    }

    public long trace() {
        return traced;
    }

    // ---- what the calls share

    private boolean isRock(int r) {
        return r >= 0 && r < told.rocks;
    }

    private boolean isLord(int lord) {
        return lord >= 0 && lord <= MOST_LORD;
    }

    private boolean isAtSea() {
        return boat.at >= told.rocks;
    }

    private int bitsAhead() {
        int bits = 0;
        for (int r = boat.at; r < told.rocks; r++) {
            bits |= 1 << r;
        }
        return bits;
    }

    private int priceOf(int r, int barrels) {
        return boat.isBroken(r) ? 0 : told.price(r, boat.tollOf(r), barrels);
    }

    private int dueHere() {
        boolean freed = boat.letter == told.fact(boat.at, LORD);
        return freed ? 0 : priceOf(boat.at, boat.barrels);
    }

    private void goOn(int letter) {
        boat.letter = letter;
        boat.at++;
    }

    private static int draw(int z, int r) {
        long q = 7919L * z + 6151L * r + 1;
        return (int) (q * q % 65521 / 8);
    }

    private void findWay() {
        route.load(boat);
        route.solve();
    }

    private int costIfBroken(int set) {
        route.load(boat);
        route.broken |= set;
        route.solve();
        return route.total;
    }

    private int paidIfToll(int r, int toll) {
        route.load(boat);
        Row.put(route.tolls, r, toll);
        route.solve();
        return Row.get(route.paid, r);
    }

    private int costOf(int barrels) {
        route.load(boat);
        route.barrels = barrels;
        route.solve();
        return route.total;
    }

    /** Whether all that was left would be so by the way found, one coin more taken at the rock r. */
    private boolean allLeftIfTook(int r) {
        for (int i = 0; i < leftCount && i < MOST_LEFT; i++) {
            int end = boat.at + Row.get(leftBehind, i);
            if (end > told.rocks) {
                return false;
            }
            int more = r < end ? 1 : 0;
            int coins = boat.coins - route.spentAhead(end) - more;
            if (coins != Row.get(leftCoins, i)) {
                return false;
            }
        }
        return true;
    }

    private Boat imageOf(int image) {
        return image >= 0 && image < IMAGES && image < images.length ? images[image] : null;
    }

    private int asRock(int r) {
        traced += 1;
        return boat.tollOf(r);
    }

    private int asChain(int r) {
        traced += 10;
        return asRock(r) + told.fact(r, WATCH);
    }

    private int asTower(int r) {
        traced += 100;
        return asRock(r) - told.fact(r, LAND);
    }

    private int asBridge(int r) {
        traced += 1000;
        return 2 * asChain(r);
    }

    private int asIsle(int r) {
        traced += 10000;
        return asTower(r) + r;
    }

    private int asBend(int r) {
        traced += 100000;
        return asRock(r) + boat.barrels;
    }

    /** Rows of numbers, whose every index is looked at first. */
    private static final class Row {
        static int get(int[] row, int place) {
            return row != null && place >= 0 && place < row.length ? row[place] : 0;
        }

        static void put(int[] row, int place, int value) {
            if (row != null && place >= 0 && place < row.length) {
                row[place] = value;
            }
        }

        static void copy(int[] from, int[] to) {
            if (from == null || to == null) {
                return;
            }
            for (int place = 0; place < from.length && place < to.length; place++) {
                to[place] = from[place];
            }
        }
    }

    /** Division and fractions, whose every divisor is looked at first. */
    private static final class Sums {
        /** Euclid's steps are far fewer for two ints. */
        private static final int MOST_STEPS = 100;

        static int upward(int upper, int lower) {
            return lower > 0 ? (upper + lower - 1) / lower : 0;
        }

        /** The first number of the fraction that it makes with the other one, in least terms. */
        static int inLeastTerms(int number, int other) {
            int common = greatestCommon(number, other);
            return common > 0 ? number / common : number;
        }

        private static int greatestCommon(int a, int b) {
            int larger = a;
            int smaller = b;
            for (int step = 0; step < MOST_STEPS && smaller != 0; step++) {
                int rest = larger % smaller;
                larger = smaller;
                smaller = rest;
            }
            return larger;
        }
    }

    /** The text, letter by letter. */
    private static final class Text {
        int length;
        private final int[] letters;

        Text() {
            letters = new int[MOST_LETTERS];
            length = 0;
        }

        void append(int letter) {
            Row.put(letters, length, letter);
            length++;
        }

        int letterAt(int place) {
            return place >= 0 && place < letters.length ? letters[place] : 0;
        }
    }

    /** What a text tells: the rocks, and the boat's first load. */
    private static final class River {
        int rocks;
        int barrels;
        int coins;
        int items;
        private final int[] facts;

        River() {
            facts = new int[MOST_ROCKS * FACTS];
            untell();
        }

        void untell() {
            rocks = 0;
            barrels = 10;
            coins = 100;
            items = 0;
        }

        void become(River other) {
            rocks = other.rocks;
            barrels = other.barrels;
            coins = other.coins;
            items = other.items;
            Row.copy(other.facts, facts);
        }

        int fact(int r, int what) {
            return Row.get(facts, r * FACTS + what);
        }

        void tell(int r, int what, int value) {
            Row.put(facts, r * FACTS + what, value);
        }

        int price(int r, int toll, int barrelCount) {
            return toll * Sums.upward(barrelCount, fact(r, MEASURE));
        }
    }

    /** Reads a text into a river, token by token. */
    private static final class Reader {
        static final int NO_FAULT = -1;

        private static final int END = -1, WRONG = -2, NUMBER = -3;
        private static final int MOST_NUMBER = 900;
        private static final int MOST_ITEMS = MOST_ROCKS + 2;
        private static final int[] LEAST_FACTS = {0, 1, 0, 0, 0};
        private static final int[] MOST_FACTS = {9, 5, 3, 10, 30};

        private final Text text;
        /** Where the next token is looked for. */
        private int place;
        /** Where the token begins. */
        private int start;
        /** One of r, b, c, ; or what it is else. */
        private int token;
        private int value;
        private boolean barrelsTold;
        private boolean coinsTold;

        Reader(Text text) {
            this.text = text;
        }

        /** The fault's place, or NO_FAULT. */
        int read(River river) {
            river.untell();
            place = 0;
            barrelsTold = false;
            coinsTold = false;
            for (int item = 0; item <= MOST_ITEMS; item++) {
                readToken();
                if (token == END) {
                    return NO_FAULT;
                }
                // kept, as reading on changes the token
                int sign = token;
                boolean isRead = sign == 'r' && readRock(river)
                    || sign == 'b' && readBarrels(river)
                    || sign == 'c' && readCoins(river);
                if (!isRead) {
                    return start;
                }
                river.items++;
            }
            return start;
        }

        private boolean readRock(River river) {
            if (river.rocks >= MOST_ROCKS) {
                return false;
            }
            for (int what = 0; what < FACTS; what++) {
                if (!readNumber(Row.get(LEAST_FACTS, what), Row.get(MOST_FACTS, what))) {
                    return false;
                }
                river.tell(river.rocks, what, value);
            }
            river.rocks++;
            return readEnd();
        }

        private boolean readBarrels(River river) {
            if (barrelsTold || !readNumber(1, MOST_BARRELS)) {
                return false;
            }
            river.barrels = value;
            barrelsTold = true;
            return readEnd();
        }

        private boolean readCoins(River river) {
            if (coinsTold || !readNumber(0, MOST_TOLD_COINS)) {
                return false;
            }
            river.coins = value;
            coinsTold = true;
            return readEnd();
        }

        private boolean readNumber(int least, int most) {
            readToken();
            return token == NUMBER && value >= least && value <= most;
        }

        private boolean readEnd() {
            readToken();
            return token == ';';
        }

        private void readToken() {
            for (; place < text.length && text.letterAt(place) == ' '; place++) {
                // a blank only parts tokens
            }
            start = place;
            if (place >= text.length) {
                token = END;
                return;
            }
            int letter = text.letterAt(place);
            if (isDigit(letter)) {
                readDigits();
                return;
            }
            place++;
            token = isSign(letter) ? letter : WRONG;
        }

        private void readDigits() {
            boolean zeroFirst = text.letterAt(start) == '0';
            value = 0;
            for (; place < text.length && isDigit(text.letterAt(place)); place++) {
                // held just above the limit, so that no row of digits overflows
                value = Math.min(value * 10 + text.letterAt(place) - '0', MOST_NUMBER + 1);
            }
            boolean zeroAhead = zeroFirst && place - start > 1;
            token = zeroAhead || value > MOST_NUMBER ? WRONG : NUMBER;
        }

        private static boolean isDigit(int letter) {
            return letter >= '0' && letter <= '9';
        }

        private static boolean isSign(int letter) {
            return letter == 'r' || letter == 'b' || letter == 'c' || letter == ';';
        }
    }

    /** All that changes as the boat goes: what an image keeps, and what undo() brings again. */
    private static final class Boat {
        int at;
        int barrels;
        int coins;
        int letter;
        int seized;
        int broken;
        final int[] tolls;
        final int[] gains;

        Boat() {
            tolls = new int[MOST_ROCKS];
            gains = new int[MOST_LORD + 1];
        }

        void start(River told) {
            at = 0;
            barrels = told.barrels;
            coins = told.coins;
            letter = NONE;
            seized = 0;
            broken = 0;
            for (int r = 0; r < MOST_ROCKS; r++) {
                Row.put(tolls, r, told.fact(r, TOLL));
            }
            for (int lord = 0; lord <= MOST_LORD; lord++) {
                Row.put(gains, lord, 0);
            }
        }

        void become(Boat other) {
            at = other.at;
            barrels = other.barrels;
            coins = other.coins;
            letter = other.letter;
            seized = other.seized;
            broken = other.broken;
            Row.copy(other.tolls, tolls);
            Row.copy(other.gains, gains);
        }

        boolean isBroken(int r) {
            return (broken >> r & 1) == 1;
        }

        int tollOf(int r) {
            return Row.get(tolls, r);
        }
    }

    /** The boat as it was ahead of the latest deeds; the oldest place is used again. */
    private static final class Past {
        int known;
        private int next;
        private final Boat[] boats;

        Past() {
            boats = new Boat[MOST_UNDONE];
            for (int i = 0; i < MOST_UNDONE && i < boats.length; i++) {
                boats[i] = new Boat();
            }
            known = 0;
            next = 0;
        }

        void forgetAll() {
            known = 0;
        }

        void remember(Boat boat) {
            Boat place = boatAt(next);
            if (place == null) {
                return;
            }
            place.become(boat);
            next = (next + 1) % MOST_UNDONE;
            known = Math.min(known + 1, MOST_UNDONE);
        }

        void restore(Boat boat) {
            int latest = (next + MOST_UNDONE - 1) % MOST_UNDONE;
            Boat place = boatAt(latest);
            if (place == null || known == 0) {
                return;
            }
            boat.become(place);
            next = latest;
            known--;
        }

        private Boat boatAt(int place) {
            return place >= 0 && place < boats.length ? boats[place] : null;
        }
    }

    /** The cheapest way to the sea from what was loaded, which may be changed ahead of solve(). */
    private static final class Route {
        int barrels;
        int broken;
        int total;
        final int[] tolls;
        /** What is paid at each rock. */
        final int[] paid;
        /** 1 where the way goes by land. */
        final int[] byLand;

        private final River told;
        private int at;
        private int letter;
        private final int[] prices;
        private final int[] landPrices;
        /** 1 where the next rock has the same lord. */
        private final int[] sameLords;
        private final int[] spent;
        /** The least cost from each rock on: two of each, by whether a letter frees it. */
        private final int[] least;

        Route(River told) {
            this.told = told;
            tolls = new int[MOST_ROCKS];
            paid = new int[MOST_ROCKS];
            byLand = new int[MOST_ROCKS];
            prices = new int[MOST_ROCKS];
            landPrices = new int[MOST_ROCKS];
            sameLords = new int[MOST_ROCKS];
            spent = new int[MOST_ROCKS];
            least = new int[2 * (MOST_ROCKS + 1)];
        }

        void load(Boat boat) {
            at = boat.at;
            barrels = boat.barrels;
            letter = boat.letter;
            broken = boat.broken;
            Row.copy(boat.tolls, tolls);
        }

        void solve() {
            priceAll();
            weighAll();
            walk();
        }

        /** What the way costs at the rocks left that are ahead of the rock named. */
        int spentAhead(int end) {
            int sum = 0;
            for (int r = at; r < end && r < MOST_ROCKS; r++) {
                sum += Row.get(spent, r);
            }
            return sum;
        }

        private void priceAll() {
            for (int r = at; r < told.rocks; r++) {
                boolean isBroken = (broken >> r & 1) == 1;
                int price = isBroken ? 0 : told.price(r, Row.get(tolls, r), barrels);
                Row.put(prices, r, price);
                Row.put(landPrices, r, told.fact(r, LAND) * barrels);
                boolean isSameLord = r + 1 < told.rocks && told.fact(r, LORD) == told.fact(r + 1, LORD);
                Row.put(sameLords, r, isSameLord ? 1 : 0);
            }
        }

        private void weighAll() {
            setLeast(told.rocks, 0, 0);
            setLeast(told.rocks, 1, 0);
            for (int r = told.rocks - 1; r >= at; r--) {
                setLeast(r, 0, Math.min(costByPay(r, 0), costByLand(r)));
                setLeast(r, 1, Math.min(costByPay(r, 1), costByLand(r)));
            }
        }

        private void walk() {
            int freed = at < told.rocks && letter == told.fact(at, LORD) ? 1 : 0;
            total = leastFrom(at, freed);
            for (int r = at; r < told.rocks; r++) {
                boolean isByLand = costByLand(r) < costByPay(r, freed);
                int pay = isByLand ? 0 : due(r, freed);
                Row.put(byLand, r, isByLand ? 1 : 0);
                Row.put(paid, r, pay);
                Row.put(spent, r, isByLand ? Row.get(landPrices, r) : pay);
                freed = freedBehind(r, pay);
            }
        }

        private int due(int r, int freed) {
            return freed == 1 ? 0 : Row.get(prices, r);
        }

        private int costByPay(int r, int freed) {
            int pay = due(r, freed);
            return pay + leastFrom(r + 1, freedBehind(r, pay));
        }

        private int costByLand(int r) {
            return Row.get(landPrices, r) + leastFrom(r + 1, 0);
        }

        private int freedBehind(int r, int pay) {
            return pay > 0 ? Row.get(sameLords, r) : 0;
        }

        private int leastFrom(int r, int freed) {
            return Row.get(least, 2 * r + freed);
        }

        private void setLeast(int r, int freed, int cost) {
            Row.put(least, 2 * r + freed, cost);
        }
    }
}
