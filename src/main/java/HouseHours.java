import java.util.Arrays;

/** Houses, each with a clock that runs by a law of its own; README.md tells how to use it. */
public final class HouseHours {
    public static final int BAD = -1, STATE = -2, FULL = -3, NONE = -9;
    public static final int NO = -1000000;

    private static final int NOT_SO_MANY = -5;
    private static final int FAULT_AT_START = -10;

    private static final int LAST_QUARTER = 95;
    private static final int QUARTERS = 96;
    private static final int LAST_NUMBER = 47;
    private static final int NUMBERS = 48;
    private static final int MOST_RATE = 9;
    private static final int MOST_WALK = 9;
    private static final int MOST_STAY = 9;

    private static final int MOST_BYTES = 300;
    private static final int MOST_BYTES_AT_ONCE = 8;
    private static final int MOST_HOUSES = 6;
    private static final int MOST_LEAPS = 2;
    private static final int MOST_TURNS = 10;
    private static final int MOST_ERRANDS = 4;
    private static final int MOST_SEEN = 8;
    private static final int MOST_DEBTS = 8;
    private static final int IMAGES = 2;

    private final Text text = new Text();
    private final Reader reader = new Reader(text);
    private final Clocks clocks = new Clocks();
    private final Moment present = clocks.moment;
    private final Errands errands = new Errands(clocks);
    private final Watch watch = new Watch(clocks);
    private final Debts debts = new Debts(clocks);
    private final Moment[] images = new Moment[IMAGES];
    private final boolean[] kept = new boolean[IMAGES];
    private long trace;

    public HouseHours() {
        for (int i = 0; i < IMAGES; i++) {
            images[i] = new Moment();
        }
    }

    // ---- the town

    public int type(long v, int n) {
        if (!isWithin(n, 1, MOST_BYTES_AT_ONCE)) {
            return BAD;
        }
        if (text.length + n > MOST_BYTES) {
            return FULL;
        }
        text.add(v, n);
        return text.length;
    }

    public int clear() {
        int had = text.length;
        text.length = 0;
        return had;
    }

    public int town() {
        int items = reader.readAll();
        if (items >= 0) {
            clocks.town = reader.handOver(clocks.town);
            beginAnew();
        }
        return items;
    }

    public int house(int h, int what) {
        if (!clocks.has(h)) {
            return BAD;
        }
        House told = clocks.town.houses[h];
        switch (what) {
            case 0: return told.start;
            case 1: return told.p;
            case 2: return told.q;
            case 3: return told.leaps;
            case 4: return present.turned[h];
            default: return BAD;
        }
    }

    public int shows(int h, int t) {
        return clocks.has(h) && isQuarter(t) ? clocks.showsAt(h, t) : BAD;
    }

    public int first(int h, int number, int from) {
        return clocks.has(h) && isNumber(number) && isQuarter(from) ? clocks.firstFrom(h, number, from) : BAD;
    }

    public int many(int h, int number) {
        if (!clocks.has(h)) {
            return BAD;
        }
        if (number == -1) {
            return NUMBERS - Long.bitCount(clocks.numbersOfDay(h));
        }
        return isNumber(number) ? clocks.timesOfDay(h, number) : BAD;
    }

    public int there(int a, int number, int b) {
        if (!clocks.has(a) || !clocks.has(b) || !isNumber(number)) {
            return BAD;
        }
        int when = clocks.firstFrom(a, number, 0);
        return when == NONE ? NONE : clocks.showsAt(b, when);
    }

    public int early(int a, int b, int what) {
        if (!clocks.hasBoth(a, b)) {
            return BAD;
        }
        switch (what) {
            case 0: return clocks.earlyVisits(a, b);
            case 1: return clocks.firstEarlyVisit(a, b);
            default: return BAD;
        }
    }

    // ---- time and turns

    public int go(int n) {
        if (!isWithin(n, 1, LAST_QUARTER)) {
            return BAD;
        }
        if (present.now + n > LAST_QUARTER) {
            return STATE;
        }
        present.now += n;
        return present.now;
    }

    public int turn(int h, int by) {
        if (!clocks.has(h) || !isWithin(by, 1, LAST_NUMBER)) {
            return BAD;
        }
        present.addTurn(h, by);
        return clocks.showsNow(h);
    }

    public int undo() {
        return present.known == 0 ? STATE : present.takeTurnBack();
    }

    // ---- errands, parties, treaties

    public int errand(int h, int from, int to, int stay) {
        if (!clocks.has(h) || !isNumber(from) || !isNumber(to) || !isWithin(stay, 0, MOST_STAY)) {
            return BAD;
        }
        if (errands.count >= MOST_ERRANDS) {
            return FULL;
        }
        errands.add(h, from, to, stay);
        return errands.count;
    }

    public int rests() {
        int were = errands.count;
        errands.count = 0;
        return were;
    }

    public int soonest(int h, int i) {
        if (!clocks.has(h) || i < -1) {
            return BAD;
        }
        int order = errands.soonestOrder(h);
        if (order == NONE) {
            return NONE;
        }
        if (i == -1) {
            return errands.endOf(order, h);
        }
        return i < errands.count ? errands.inOrder(order, i) : NOT_SO_MANY;
    }

    public int party(int number) {
        if (number == -1) {
            return clocks.numberOfLeastSpread();
        }
        return isNumber(number) ? clocks.spread(number) : BAD;
    }

    public int treaty(int a, int b, int what) {
        if (!clocks.hasBoth(a, b) || !isWithin(what, 0, 1)) {
            return BAD;
        }
        clocks.tallyTurns(a, b);
        int best = clocks.bestTallied();
        return what == 0 ? best : clocks.tally[best];
    }

    // ---- what was seen, ages, debts

    public int saw(int t, int number) {
        if (!isQuarter(t) || !isNumber(number)) {
            return BAD;
        }
        if (watch.count >= MOST_SEEN) {
            return FULL;
        }
        watch.add(t, number);
        return watch.count;
    }

    public int forget() {
        int was = watch.count;
        watch.count = 0;
        return was;
    }

    public int whose(int what) {
        if (!isWithin(what, 0, 2)) {
            return BAD;
        }
        int could = watch.housesThatCould();
        if (what == 0) {
            return could;
        }
        int look = clocks.quarterMostUnlike(could);
        return what == 1 || look == NONE ? look : clocks.unlikeAt(could, look);
    }

    public int aged(int h, int a, int b) {
        if (!isQuarter(a) || !isQuarter(b) || b < a) {
            return BAD;
        }
        if (h == -1) {
            return clocks.eldest(a, b);
        }
        return clocks.has(h) ? clocks.town.houses[h].agedBetween(a, b) : BAD;
    }

    public int owes(int a, int b, int number) {
        if (!clocks.hasBoth(a, b) || !isNumber(number)) {
            return BAD;
        }
        if (debts.count >= MOST_DEBTS) {
            return FULL;
        }
        debts.add(a, b, number);
        return debts.count - 1;
    }

    public int due(int k) {
        if (k == -1) {
            return debts.hasRing() ? 1 : 0;
        }
        return isWithin(k, 0, debts.count - 1) ? debts.quarterOf(k) : BAD;
    }

    // ---- kinds, images

    public int mark(int kind, int h) {
        if (!clocks.has(h)) {
            return NO;
        }
        switch (kind) {
            case 0: return asHouse(h);
            case 1: return asInn(h);
            case 2: return asMill(h);
            case 3: return asPalace(h);
            case 4: return asToll(h);
            case 5: return asChurch(h);
            default: return NO;
        }
    }

    public int keep(int image) {
        if (!isWithin(image, 0, IMAGES - 1)) {
            return BAD;
        }
        images[image].copyFrom(present);
        kept[image] = true;
        return present.now;
    }

    public int back(int image) {
        if (!isWithin(image, 0, IMAGES - 1)) {
            return BAD;
        }
        if (!kept[image]) {
            return STATE;
        }
        present.copyFrom(images[image]);
        return present.now;
    }

    public int count(int what) {
        switch (what) {
            case 0: return clocks.town.count;
            case 1: return clocks.town.walk;
            case 2: return present.now;
            case 3: return errands.count;
            case 4: return watch.count;
            case 5: return debts.count;
            case 6: return present.known;
            case 7: return text.length;
            default: return BAD;
        }
    }

    public long trace() {
        return trace;
    }

    // ---- what the calls above share

    private static boolean isWithin(int x, int least, int most) {
        return x >= least && x <= most;
    }

    private static boolean isQuarter(int t) {
        return isWithin(t, 0, LAST_QUARTER);
    }

    private static boolean isNumber(int number) {
        return isWithin(number, 0, LAST_NUMBER);
    }

    /** THE TRACE alone outlives the town that was. */
    private void beginAnew() {
        text.length = 0;
        present.reset();
        errands.count = 0;
        watch.count = 0;
        debts.count = 0;
        for (int i = 0; i < IMAGES; i++) {
            kept[i] = false;
        }
    }

    private int asHouse(int h) {
        trace += 1;
        return clocks.showsNow(h);
    }

    private int asInn(int h) {
        trace += 10;
        return asHouse(h) + clocks.town.houses[h].leaps;
    }

    private int asMill(int h) {
        trace += 100;
        return asHouse(h) - clocks.town.houses[h].p;
    }

    private int asPalace(int h) {
        trace += 1000;
        return asInn(h) * 2;
    }

    private int asToll(int h) {
        trace += 10000;
        return asMill(h) + clocks.town.houses[h].q;
    }

    private int asChurch(int h) {
        trace += 100000;
        return asHouse(h) + present.now;
    }

    /** THE TEXT, a byte (0 .. 255) in each place. */
    private static final class Text {
        final int[] bytes = new int[MOST_BYTES];
        int length;

        void add(long v, int n) {
            for (int i = n - 1; i >= 0 && length < MOST_BYTES; i--) {
                bytes[length] = (int) (v >>> (8 * i)) & 255;
                length++;
            }
        }

        boolean isLetter(int place) {
            return place < length && isWithin(bytes[place], 'a', 'z');
        }

        boolean isDigit(int place) {
            return place < length && isWithin(bytes[place], '0', '9');
        }

        boolean isBlank(int place) {
            return place < length && bytes[place] == ' ';
        }

        boolean has(String word, int from, int to) {
            if (to - from != word.length()) {
                return false;
            }
            for (int i = 0; i < word.length(); i++) {
                if (bytes[from + i] != word.charAt(i)) {
                    return false;
                }
            }
            return true;
        }
    }

    /** Reads THE TEXT, TOKEN by TOKEN; where a TOKEN can't stand, tokenAt stays on it. */
    private static final class Reader {
        private static final int END = 0, WRONG = 1, NUMBER = 2, SEMICOLON = 3, HOUSE = 4, LEAP = 5, WALK = 6;

        private final Text text;
        private Town town = new Town();
        private int place;
        private int tokenAt;
        private int token;
        private int value;
        private boolean walkTold;

        Reader(Text text) {
            this.text = text;
        }

        /** The town that was read; the one that is left serves to read the next, so that no call makes objects. */
        Town handOver(Town left) {
            Town read = town;
            town = left;
            return read;
        }

        /** How many ITEMS; -10 less FAULT, and then the town is half told. */
        int readAll() {
            town.reset();
            place = 0;
            walkTold = false;
            for (int items = 0; items <= MOST_BYTES; items++) {
                step();
                if (token == END) {
                    return items;
                }
                boolean reads = token == HOUSE ? readsHouse()
                        : token == LEAP ? readsLeap()
                        : token == WALK && readsWalk();
                if (!reads) {
                    break;
                }
            }
            return FAULT_AT_START - tokenAt;
        }

        private boolean readsHouse() {
            if (town.count >= MOST_HOUSES || !readsNumber(0, LAST_NUMBER)) {
                return false;
            }
            int start = value;
            if (!readsNumber(1, MOST_RATE)) {
                return false;
            }
            int p = value;
            if (!readsNumber(1, MOST_RATE)) {
                return false;
            }
            town.addHouse(start, p, value);
            return readsSemicolon();
        }

        private boolean readsLeap() {
            if (!readsNumber(0, town.count - 1)) {
                return false;
            }
            House told = town.houses[value];
            if (told.leaps >= MOST_LEAPS || !readsNumber(0, LAST_QUARTER)) {
                return false;
            }
            int from = value;
            if (!readsNumber(1, LAST_NUMBER)) {
                return false;
            }
            told.addLeap(from, value);
            return readsSemicolon();
        }

        private boolean readsWalk() {
            if (walkTold || !readsNumber(0, MOST_WALK)) {
                return false;
            }
            walkTold = true;
            town.walk = value;
            return readsSemicolon();
        }

        private boolean readsNumber(int least, int most) {
            step();
            return token == NUMBER && isWithin(value, least, most);
        }

        private boolean readsSemicolon() {
            step();
            return token == SEMICOLON;
        }

        private void step() {
            while (text.isBlank(place) && place < MOST_BYTES) {
                place++;
            }
            tokenAt = place;
            if (place >= text.length) {
                token = END;
            } else if (text.isLetter(place)) {
                stepWord();
            } else if (text.isDigit(place)) {
                stepNumber();
            } else {
                token = text.bytes[place] == ';' ? SEMICOLON : WRONG;
                place++;
            }
        }

        private void stepWord() {
            while (text.isLetter(place) && place < MOST_BYTES) {
                place++;
            }
            if (text.has("house", tokenAt, place)) {
                token = HOUSE;
            } else if (text.has("leap", tokenAt, place)) {
                token = LEAP;
            } else if (text.has("walk", tokenAt, place)) {
                token = WALK;
            } else {
                token = WRONG;
            }
        }

        private void stepNumber() {
            boolean zeroAhead = text.bytes[tokenAt] == '0';
            value = 0;
            while (text.isDigit(place) && place < MOST_BYTES) {
                // All above 99 are alike wrong, and 300 digits would wrap round.
                value = Math.min(value * 10 + text.bytes[place] - '0', 100);
                place++;
            }
            boolean hasOthers = place - tokenAt > 1;
            token = value > 99 || zeroAhead && hasOthers ? WRONG : NUMBER;
        }
    }

    /** One HOUSE as the text tells it. */
    private static final class House {
        /** What it SHOWS at each QUARTER while no TURNS are added. */
        final int[] dial = new int[QUARTERS];
        int start;
        int p = 1;
        int q = 1;
        int leaps;

        void build(int newStart, int newP, int newQ) {
            start = newStart;
            p = newP;
            q = newQ;
            leaps = 0;
            for (int t = 0; t < QUARTERS; t++) {
                dial[t] = (start + ranTill(t)) % NUMBERS;
            }
        }

        void addLeap(int from, int by) {
            leaps++;
            for (int t = Math.max(from, 0); t < QUARTERS; t++) {
                dial[t] = (dial[t] + by) % NUMBERS;
            }
        }

        int agedBetween(int a, int b) {
            return ranTill(b) - ranTill(a);
        }

        private int ranTill(int t) {
            return q == 0 ? 0 : t * p / q;
        }
    }

    /** All that a text tells. */
    private static final class Town {
        final House[] houses = new House[MOST_HOUSES];
        int count;
        int walk = 1;

        Town() {
            for (int h = 0; h < MOST_HOUSES; h++) {
                houses[h] = new House();
            }
        }

        void reset() {
            count = 0;
            walk = 1;
        }

        void addHouse(int start, int p, int q) {
            if (count < MOST_HOUSES) {
                houses[count].build(start, p, q);
                count++;
            }
        }
    }

    /** What an IMAGE keeps: NOW, the TURNS, and those of them that may be UNDONE. */
    private static final class Moment {
        final int[] turned = new int[MOST_HOUSES];
        final int[] knownHouse = new int[MOST_TURNS];
        final int[] knownBy = new int[MOST_TURNS];
        int known;
        int now;

        void reset() {
            Arrays.fill(turned, 0);
            known = 0;
            now = 0;
        }

        void copyFrom(Moment other) {
            System.arraycopy(other.turned, 0, turned, 0, MOST_HOUSES);
            System.arraycopy(other.knownHouse, 0, knownHouse, 0, MOST_TURNS);
            System.arraycopy(other.knownBy, 0, knownBy, 0, MOST_TURNS);
            known = other.known;
            now = other.now;
        }

        void addTurn(int h, int by) {
            turned[h] = (turned[h] + by) % NUMBERS;
            if (known >= MOST_TURNS) {
                loseOldestTurn();
            }
            knownHouse[known] = h;
            knownBy[known] = by;
            known++;
        }

        private void loseOldestTurn() {
            System.arraycopy(knownHouse, 1, knownHouse, 0, MOST_TURNS - 1);
            System.arraycopy(knownBy, 1, knownBy, 0, MOST_TURNS - 1);
            known = MOST_TURNS - 1;
        }

        /** The HOUSE whose TURN is UNDONE. */
        int takeTurnBack() {
            if (known == 0) {
                return NONE;
            }
            known--;
            int h = knownHouse[known];
            turned[h] = Math.floorMod(turned[h] - knownBy[known], NUMBERS);
            return h;
        }
    }

    /** The town's clocks as they are TURNED at present. */
    private static final class Clocks {
        final Moment moment = new Moment();
        final int[] tally = new int[NUMBERS];
        Town town = new Town();

        boolean has(int h) {
            return isWithin(h, 0, town.count - 1);
        }

        boolean hasBoth(int a, int b) {
            return has(a) && has(b) && a != b;
        }

        int showsAt(int h, int t) {
            return (town.houses[h].dial[t] + moment.turned[h]) % NUMBERS;
        }

        int showsNow(int h) {
            return showsAt(h, moment.now);
        }

        int firstFrom(int h, int number, int from) {
            for (int t = from; t < QUARTERS; t++) {
                if (showsAt(h, t) == number) {
                    return t;
                }
            }
            return NONE;
        }

        int timesOfDay(int h, int number) {
            int times = 0;
            for (int t = 0; t < QUARTERS; t++) {
                if (showsAt(h, t) == number) {
                    times++;
                }
            }
            return times;
        }

        /** A bit for each number that the HOUSE SHOWS at some QUARTER. */
        long numbersOfDay(int h) {
            long shown = 0;
            for (int t = 0; t < QUARTERS; t++) {
                shown |= 1L << showsAt(h, t);
            }
            return shown;
        }

        private boolean isEarly(int a, int b, int t) {
            return showsAt(b, t + town.walk) < showsAt(a, t);
        }

        int earlyVisits(int a, int b) {
            int visits = 0;
            for (int t = 0; t + town.walk < QUARTERS; t++) {
                if (isEarly(a, b, t)) {
                    visits++;
                }
            }
            return visits;
        }

        int firstEarlyVisit(int a, int b) {
            for (int t = 0; t + town.walk < QUARTERS; t++) {
                if (isEarly(a, b, t)) {
                    return t;
                }
            }
            return NONE;
        }

        int spread(int number) {
            if (town.count == 0) {
                return NONE;
            }
            int earliest = LAST_QUARTER;
            int latest = 0;
            for (int h = 0; h < town.count; h++) {
                int comes = firstFrom(h, number, 0);
                if (comes == NONE) {
                    return NONE;
                }
                earliest = Math.min(earliest, comes);
                latest = Math.max(latest, comes);
            }
            return latest - earliest;
        }

        int numberOfLeastSpread() {
            int best = NONE;
            int least = QUARTERS;
            for (int number = 0; number < NUMBERS; number++) {
                int spread = spread(number);
                if (spread != NONE && spread < least) {
                    least = spread;
                    best = number;
                }
            }
            return best;
        }

        /** For each TURN of b, on how many QUARTERS both would SHOW the same. */
        void tallyTurns(int a, int b) {
            Arrays.fill(tally, 0);
            for (int t = 0; t < QUARTERS; t++) {
                tally[Math.floorMod(showsAt(a, t) - showsAt(b, t), NUMBERS)]++;
            }
        }

        int bestTallied() {
            int best = 0;
            for (int by = 1; by < NUMBERS; by++) {
                if (tally[by] > tally[best]) {
                    best = by;
                }
            }
            return best;
        }

        int unlikeAt(int houseBits, int t) {
            long shown = 0;
            for (int h = 0; h < town.count; h++) {
                if (((houseBits >> h) & 1) != 0) {
                    shown |= 1L << showsAt(h, t);
                }
            }
            return Long.bitCount(shown);
        }

        int quarterMostUnlike(int houseBits) {
            if (Integer.bitCount(houseBits) < 2) {
                return NONE;
            }
            int best = 0;
            int most = 0;
            for (int t = 0; t < QUARTERS; t++) {
                int unlike = unlikeAt(houseBits, t);
                if (unlike > most) {
                    most = unlike;
                    best = t;
                }
            }
            return best;
        }

        int eldest(int a, int b) {
            int eldest = NONE;
            int most = -1;
            for (int h = 0; h < town.count; h++) {
                int aged = town.houses[h].agedBetween(a, b);
                if (aged > most) {
                    most = aged;
                    eldest = h;
                }
            }
            return eldest;
        }
    }

    /** ERRANDS; an order of n of them is a number of n digits of two bits, the first one highest. */
    private static final class Errands {
        private final Clocks clocks;
        private final int[] house = new int[MOST_ERRANDS];
        private final int[] from = new int[MOST_ERRANDS];
        private final int[] to = new int[MOST_ERRANDS];
        private final int[] stay = new int[MOST_ERRANDS];
        int count;

        Errands(Clocks clocks) {
            this.clocks = clocks;
        }

        void add(int h, int least, int most, int quarters) {
            if (count < MOST_ERRANDS) {
                house[count] = h;
                from[count] = least;
                to[count] = most;
                stay[count] = quarters;
                count++;
            }
        }

        int inOrder(int order, int i) {
            return (order >> (2 * (count - 1 - i))) & 3;
        }

        /** Orders are tried as they grow, so that of several the first is found; NONE. */
        int soonestOrder(int start) {
            int best = NONE;
            int least = QUARTERS;
            for (int order = 0; order < (1 << (2 * count)); order++) {
                int end = isOrder(order) ? endOf(order, start) : NONE;
                if (end != NONE && end < least) {
                    least = end;
                    best = order;
                }
            }
            return best;
        }

        private boolean isOrder(int order) {
            int named = 0;
            for (int i = 0; i < count; i++) {
                named |= 1 << inOrder(order, i);
            }
            return named == (1 << count) - 1;
        }

        int endOf(int order, int start) {
            int at = start;
            int time = clocks.moment.now;
            for (int i = 0; i < count; i++) {
                int e = inOrder(order, i);
                if (house[e] != at) {
                    time += clocks.town.walk;
                }
                at = house[e];
                int begin = beginOf(e, time);
                if (begin == NONE || begin + stay[e] > LAST_QUARTER) {
                    return NONE;
                }
                time = begin + stay[e];
            }
            return time;
        }

        private int beginOf(int e, int comes) {
            for (int t = comes; t < QUARTERS; t++) {
                if (isBetween(clocks.showsAt(house[e], t), from[e], to[e])) {
                    return t;
                }
            }
            return NONE;
        }

        /** Round: 46 to 1 is 46, 47, 0, 1. */
        private static boolean isBetween(int number, int least, int most) {
            return Math.floorMod(number - least, NUMBERS) <= Math.floorMod(most - least, NUMBERS);
        }
    }

    /** What was SEEN of one and the same watch. */
    private static final class Watch {
        private final Clocks clocks;
        private final int[] when = new int[MOST_SEEN];
        private final int[] number = new int[MOST_SEEN];
        int count;

        Watch(Clocks clocks) {
            this.clocks = clocks;
        }

        void add(int t, int shown) {
            if (count < MOST_SEEN) {
                when[count] = t;
                number[count] = shown;
                count++;
            }
        }

        int housesThatCould() {
            int bits = 0;
            for (int h = 0; h < clocks.town.count; h++) {
                if (could(h)) {
                    bits |= 1 << h;
                }
            }
            return bits;
        }

        private boolean could(int h) {
            for (int i = 0; i < count; i++) {
                if (clocks.showsAt(h, when[i]) != number[i]) {
                    return false;
                }
            }
            return true;
        }
    }

    private static final class Debts {
        private final Clocks clocks;
        private final int[] debtor = new int[MOST_DEBTS];
        private final int[] creditor = new int[MOST_DEBTS];
        private final int[] number = new int[MOST_DEBTS];
        private final int[] quarter = new int[MOST_DEBTS];
        private final int[] followers = new int[MOST_DEBTS];
        int count;

        Debts(Clocks clocks) {
            this.clocks = clocks;
        }

        void add(int a, int b, int shown) {
            if (count < MOST_DEBTS) {
                debtor[count] = a;
                creditor[count] = b;
                number[count] = shown;
                count++;
            }
        }

        int quarterOf(int k) {
            return clocks.firstFrom(creditor[k], number[k], 0);
        }

        boolean hasRing() {
            findNextOnes();
            findFollowers();
            for (int k = 0; k < count; k++) {
                for (int last = 0; last < count; last++) {
                    if (isFollowedBy(k, last) && creditor[last] == debtor[k]) {
                        return true;
                    }
                }
            }
            return false;
        }

        /** For each DEBT a bit for each one that can be the next in a row. */
        private void findNextOnes() {
            for (int k = 0; k < count; k++) {
                quarter[k] = quarterOf(k);
            }
            for (int k = 0; k < count; k++) {
                followers[k] = 0;
                for (int next = 0; next < count; next++) {
                    if (canPrecede(k, next)) {
                        followers[k] |= 1 << next;
                    }
                }
            }
        }

        private boolean canPrecede(int k, int next) {
            return creditor[k] == debtor[next] && quarter[k] != NONE && quarter[k] < quarter[next];
        }

        /** As QUARTERS grow along a row, who follows a follower follows in the same row. */
        private void findFollowers() {
            for (int between = 0; between < count; between++) {
                for (int k = 0; k < count; k++) {
                    if (isFollowedBy(k, between)) {
                        followers[k] |= followers[between];
                    }
                }
            }
        }

        private boolean isFollowedBy(int k, int other) {
            return ((followers[k] >> other) & 1) != 0;
        }
    }
}
