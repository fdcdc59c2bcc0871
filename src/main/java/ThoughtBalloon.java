import java.util.Arrays;

/**
 * Balloon for a single thought: people in a small car who are let up by a thought that one of them has.
 *
 * <p>All rows are made in constructors and used again, so that no call makes an object. Every number that comes
 * from outside is looked at in the public method that takes it.
 */
public final class ThoughtBalloon {
    public static final int BAD = -1, STATE = -2, FULL = -3, NONE = -9;
    public static final int NO = -1000000;

    private static final int LAST_CELL = 40, FIRST_START = 20, TOP = 9, LAST_MINUTE = 99;
    private static final int MOST_PEOPLE = 3, MOST_THOUGHTS = 4, MOST_BYTES = 120;
    private static final int MOST_UNDONE = 10, MOST_REPORTS = 6, MOST_TURNS = 4;
    private static final int MOST_LIFT = 30, MOST_FADE = 5, IMAGES = 2, KINDS = 6;

    private final Text text = new Text();
    private final Told told = new Told();
    private final Told draft = new Told();
    private final Flight flight = new Flight();
    private final Flight trial = new Flight();
    private final History history = new History();
    private final Image[] images = new Image[IMAGES];
    private final Search search = new Search();
    private final Odds chances = new Odds();
    private final Reports seen = new Reports();
    private final Reports heard = new Reports();
    private final int[] alike = new int[TOP + 1];
    private long traced = 0;

    public ThoughtBalloon() {
        for (int i = 0; i < IMAGES; i++) {
            images[i] = new Image();
        }
        startAnew();
    }

    // ---- the sheds

    public int type(int c) {
        if (!within(c, 0, 255)) {
            return BAD;
        }
        return text.add(c);
    }

    public int clear() {
        return text.drop();
    }

    public int sheds() {
        int items = text.readInto(draft);
        if (items < 0) {
            return items;
        }
        told.copyFrom(draft);
        text.drop();
        startAnew();
        return items;
    }

    public int wind(int h) {
        return within(h, 0, TOP) ? told.windAt(h) : NO;
    }

    public int one(int p, int what) {
        if (!told.hasPerson(p)) {
            return BAD;
        }
        switch (what) {
            case 0: return told.weights[p];
            case 1: return told.breaths[p];
            case 2: return flight.hasAboard(p) ? 1 : 0;
            case 3: return flight.usedBy(p);
            case 4: return told.liftsOf(p);
            default: return BAD;
        }
    }

    public int thought(int t, int what) {
        if (!told.hasThought(t)) {
            return BAD;
        }
        switch (what) {
            case 0: return told.lifts[t];
            case 1: return told.fades[t];
            default: return BAD;
        }
    }

    // ---- what is done

    public int begins(int p, int t) {
        if (!told.hasPerson(p) || !told.hasThought(t)) {
            return BAD;
        }
        if (flight.lost || !flight.mayBegin(p, t)) {
            return STATE;
        }
        history.push(flight);
        flight.begin(p, t);
        return told.hold(flight);
    }

    public int minutes(int n) {
        if (!within(n, 1, 9)) {
            return BAD;
        }
        if (flight.minute + n > LAST_MINUTE) {
            return STATE;
        }
        history.push(flight);
        told.passMinutes(flight, n);
        return flight.cell;
    }

    public int enters(int p) {
        if (!told.hasPerson(p)) {
            return BAD;
        }
        if (flight.hasAboard(p) || !flight.mayBeBoarded()) {
            return STATE;
        }
        history.push(flight);
        flight.takeIn(p);
        return Integer.bitCount(flight.aboard);
    }

    public int leaves(int p) {
        if (!told.hasPerson(p)) {
            return BAD;
        }
        if (!flight.hasAboard(p) || !flight.mayBeBoarded()) {
            return STATE;
        }
        history.push(flight);
        flight.letOut(p);
        return Integer.bitCount(flight.aboard);
    }

    public int undo() {
        if (history.size == 0) {
            return STATE;
        }
        history.pop(flight);
        return history.size;
    }

    public int now(int what) {
        switch (what) {
            case 0: return flight.minute;
            case 1: return flight.cell;
            case 2: return flight.height;
            case 3: return flight.thinker;
            case 4: return flight.idea;
            case 5: return told.hold(flight);
            case 6: return told.load(flight);
            case 7: return flight.lost ? 1 : 0;
            case 8: return told.cover();
            default: return BAD;
        }
    }

    // ---- what could be

    public int after(int n, int what) {
        if (!within(n, 0, 30) || !within(what, 0, 1)) {
            return BAD;
        }
        trial.copyFrom(flight);
        told.passMinutes(trial, n);
        return what == 0 ? trial.cell : trial.height;
    }

    public int down() {
        trial.copyFrom(flight);
        for (int m = 1; m <= 60; m++) {
            told.passMinute(trial);
            if (trial.lost) {
                return NONE;
            }
            if (trial.height == 0) {
                return m;
            }
        }
        return NONE;
    }

    public int best(int n, int what, int k) {
        if (!within(n, 0, MOST_TURNS) || !within(what, 0, 1) || !within(k, -1, MOST_TURNS - 1)) {
            return BAD;
        }
        search.run(told, flight, n, what);
        if (k == -1) {
            return search.greatest;
        }
        return k < n ? search.found[k] : NONE;
    }

    public int own(int p) {
        if (p != -1 && !told.hasPerson(p)) {
            return BAD;
        }
        int way = told.firstOwnWay();
        return p == -1 ? told.countOwn(way) : told.ownIn(way, p);
    }

    public int odds(int h, int cell, int n, int x, int what) {
        if (!within(h, 1, TOP) || !within(cell, 0, LAST_CELL) || !within(n, 0, 6)) {
            return BAD;
        }
        if (!within(x, 0, 10) || !within(what, 0, 1)) {
            return BAD;
        }
        chances.startAt(flight.cell);
        for (int i = 0; i < n; i++) {
            chances.spread(told.windAt(h), x);
        }
        return what == 0 ? chances.upper(cell) : chances.lower(cell);
    }

    // ---- what was seen, heard

    public int saw(int p, int m, int h) {
        if (!told.hasPerson(p) || !within(m, 1, 9) || !within(h, 0, TOP)) {
            return BAD;
        }
        return seen.add(p, m, h);
    }

    public int which(int p) {
        return told.hasPerson(p) ? fitting(p) : BAD;
    }

    public int look(int p) {
        if (!told.hasPerson(p)) {
            return BAD;
        }
        int thoughts = fitting(p);
        if (thoughts == 0) {
            return NONE;
        }
        int least = 1;
        int leastAlike = greatestAlike(p, thoughts, 1);
        for (int m = 2; m <= 9; m++) {
            int number = greatestAlike(p, thoughts, m);
            if (number < leastAlike) {
                leastAlike = number;
                least = m;
            }
        }
        return least;
    }

    public int hears(int m, int v) {
        if (!within(m, 0, 9) || !within(v, 0, MOST_LIFT)) {
            return BAD;
        }
        return heard.add(NONE, m, v);
    }

    public int laws(int what) {
        if (!within(what, 0, 1)) {
            return BAD;
        }
        int number = 0;
        int first = NONE;
        for (int lift = 1; lift <= MOST_LIFT; lift++) {
            for (int fade = 0; fade <= MOST_FADE; fade++) {
                if (isLaw(lift, fade)) {
                    number++;
                    first = first == NONE ? 10 * lift + fade : first;
                }
            }
        }
        return what == 0 ? number : first;
    }

    public int forget() {
        return seen.drop() + heard.drop();
    }

    // ---- kinds, images

    public int mark(int kind, int p) {
        if (!within(kind, 0, KINDS - 1) || !told.hasPerson(p)) {
            return NO;
        }
        switch (kind) {
            case 1: return markLover(p);
            case 2: return markGrudge(p);
            case 3: return markPoet(p);
            case 4: return markMiser(p);
            case 5: return markWife(p);
            default: return markOne(p);
        }
    }

    public int keep(int image) {
        if (!within(image, 0, IMAGES - 1)) {
            return BAD;
        }
        images[image].take(flight, history);
        return flight.minute;
    }

    public int back(int image) {
        if (!within(image, 0, IMAGES - 1)) {
            return BAD;
        }
        if (!images[image].kept) {
            return STATE;
        }
        images[image].give(flight, history);
        return flight.minute;
    }

    public int count(int what) {
        switch (what) {
            case 0: return told.people;
            case 1: return told.thoughts;
            case 2: return told.start;
            case 3: return seen.size;
            case 4: return heard.size;
            case 5: return history.size;
            case 6: return text.length;
            default: return BAD;
        }
    }

    public long trace() {
        return traced;
    }

    // ---- what the calls share

    private static boolean within(int number, int least, int most) {
        return number >= least && number <= most;
    }

    /** THE TRACE goes on over this: the document names all that is gone when the sheds are read anew, and not it. */
    private void startAnew() {
        flight.start(told.start, told.aboardAtFirst);
        history.size = 0;
        seen.drop();
        heard.drop();
        for (int i = 0; i < IMAGES; i++) {
            images[i].kept = false;
        }
    }

    /** THOUGHTS (bits) by which all that was seen of a person is so, from where the car is now. */
    private int fitting(int p) {
        int bits = 0;
        for (int t = 0; t < told.thoughts; t++) {
            if (fits(p, t)) {
                bits |= 1 << t;
            }
        }
        return bits;
    }

    private boolean fits(int p, int t) {
        for (int i = 0; i < seen.size; i++) {
            if (seen.people[i] == p && heightLater(p, t, seen.minutes[i]) != seen.values[i]) {
                return false;
            }
        }
        return true;
    }

    private int heightLater(int p, int t, int m) {
        trial.copyFrom(flight);
        trial.think(p, t);
        for (int i = 0; i < m; i++) {
            told.passMinute(trial);
        }
        return trial.height;
    }

    /** Of these thoughts, how many at most bring the car to one and the same height m minutes later. */
    private int greatestAlike(int p, int thoughts, int m) {
        Arrays.fill(alike, 0);
        int greatest = 0;
        for (int t = 0; t < told.thoughts; t++) {
            if ((thoughts >> t & 1) == 1) {
                int h = heightLater(p, t, m);
                alike[h]++;
                greatest = Math.max(greatest, alike[h]);
            }
        }
        return greatest;
    }

    private boolean isLaw(int lift, int fade) {
        for (int i = 0; i < heard.size; i++) {
            if (Told.faded(lift, fade, heard.minutes[i]) != heard.values[i]) {
                return false;
            }
        }
        return true;
    }

    private int markOne(int p) {
        traced += 1;
        return told.weights[p];
    }

    private int markLover(int p) {
        traced += 10;
        return markOne(p) + Integer.bitCount(flight.usedBy(p));
    }

    private int markGrudge(int p) {
        traced += 100;
        return markOne(p) - told.hold(flight);
    }

    private int markPoet(int p) {
        traced += 1000;
        return markLover(p) * 2;
    }

    private int markMiser(int p) {
        traced += 10000;
        return markGrudge(p) + p;
    }

    private int markWife(int p) {
        traced += 100000;
        return markOne(p) + flight.height;
    }

    /** Where the car is, who is in it and who thinks what: all that can be undone or kept as an image. */
    private static final class Flight {
        private int minute, cell, height;
        private int thinker, idea, since;
        /** Bit p: person p is in the car. */
        private int aboard;
        /** Bit MOST_THOUGHTS * p + t: thought t is used by person p. */
        private int used;
        private boolean lost;

        private void start(int startCell, int aboardAtFirst) {
            minute = 0;
            cell = startCell;
            height = 0;
            thinkNothing();
            aboard = aboardAtFirst;
            used = 0;
            lost = false;
        }

        private void copyFrom(Flight other) {
            minute = other.minute;
            cell = other.cell;
            height = other.height;
            thinker = other.thinker;
            idea = other.idea;
            since = other.since;
            aboard = other.aboard;
            used = other.used;
            lost = other.lost;
        }

        private boolean hasAboard(int p) {
            return (aboard >> p & 1) == 1;
        }

        private int usedBy(int p) {
            return used >> MOST_THOUGHTS * p & (1 << MOST_THOUGHTS) - 1;
        }

        private boolean mayBegin(int p, int t) {
            return hasAboard(p) && (usedBy(p) >> t & 1) == 0;
        }

        private boolean mayBeBoarded() {
            return height == 0 && !lost;
        }

        private void begin(int p, int t) {
            think(p, t);
            used |= 1 << MOST_THOUGHTS * p + t;
        }

        private void think(int p, int t) {
            thinker = p;
            idea = t;
            since = minute;
        }

        private void thinkNothing() {
            thinker = NONE;
            idea = NONE;
            since = 0;
        }

        private void takeIn(int p) {
            aboard |= 1 << p;
        }

        private void letOut(int p) {
            aboard &= ~(1 << p);
            if (thinker == p) {
                thinkNothing();
            }
        }

        private void climb(int by) {
            height = Math.max(0, Math.min(TOP, height + by));
        }

        private void drift(int by) {
            int to = cell + by;
            cell = Math.max(0, Math.min(LAST_CELL, to));
            lost = cell != to;
        }
    }

    /** What may be undone: the flight as it was ahead of each of the latest deeds, the oldest first. */
    private static final class History {
        private final Flight[] flights = new Flight[MOST_UNDONE];
        private int size = 0;

        private History() {
            for (int i = 0; i < MOST_UNDONE; i++) {
                flights[i] = new Flight();
            }
        }

        private void push(Flight flight) {
            if (size >= MOST_UNDONE) {
                dropOldest();
            }
            flights[size].copyFrom(flight);
            size++;
        }

        private void dropOldest() {
            Flight oldest = flights[0];
            for (int i = 1; i < MOST_UNDONE; i++) {
                flights[i - 1] = flights[i];
            }
            flights[MOST_UNDONE - 1] = oldest;
            size = MOST_UNDONE - 1;
        }

        private void pop(Flight into) {
            if (size > 0) {
                size--;
                into.copyFrom(flights[size]);
            }
        }

        private void copyFrom(History other) {
            size = other.size;
            for (int i = 0; i < size; i++) {
                flights[i].copyFrom(other.flights[i]);
            }
        }
    }

    /** A flight and what may be undone of it, kept aside. */
    private static final class Image {
        private final Flight flight = new Flight();
        private final History history = new History();
        private boolean kept = false;

        private void take(Flight fromFlight, History fromHistory) {
            flight.copyFrom(fromFlight);
            history.copyFrom(fromHistory);
            kept = true;
        }

        private void give(Flight toFlight, History toHistory) {
            toFlight.copyFrom(flight);
            toHistory.copyFrom(history);
        }
    }

    /** What a text has told of winds, people, thoughts and the start, and the laws by which a flight goes on. */
    private static final class Told {
        private final int[] winds = new int[TOP + 1];
        private final int[] weights = new int[MOST_PEOPLE];
        private final int[] breaths = new int[MOST_PEOPLE];
        private final int[] lifts = new int[MOST_THOUGHTS];
        private final int[] fades = new int[MOST_THOUGHTS];
        private int people = 0, thoughts = 0, start = FIRST_START;
        /** Bit p: person p is in the car at first. */
        private int aboardAtFirst = 0;

        private void tellNothing() {
            Arrays.fill(winds, 0);
            people = 0;
            thoughts = 0;
            start = FIRST_START;
            aboardAtFirst = 0;
        }

        private void copyFrom(Told other) {
            System.arraycopy(other.winds, 0, winds, 0, TOP + 1);
            System.arraycopy(other.weights, 0, weights, 0, MOST_PEOPLE);
            System.arraycopy(other.breaths, 0, breaths, 0, MOST_PEOPLE);
            System.arraycopy(other.lifts, 0, lifts, 0, MOST_THOUGHTS);
            System.arraycopy(other.fades, 0, fades, 0, MOST_THOUGHTS);
            people = other.people;
            thoughts = other.thoughts;
            start = other.start;
            aboardAtFirst = other.aboardAtFirst;
        }

        private void tellWind(int h, int number) {
            if (within(h, 1, TOP)) {
                winds[h] = number - 3;
            }
        }

        private void tellPerson(int weight, int breath, int aboard) {
            if (people < MOST_PEOPLE) {
                weights[people] = weight;
                breaths[people] = breath;
                aboardAtFirst |= aboard << people;
                people++;
            }
        }

        private void tellThought(int lift, int fade) {
            if (thoughts < MOST_THOUGHTS) {
                lifts[thoughts] = lift;
                fades[thoughts] = fade;
                thoughts++;
            }
        }

        private boolean hasPerson(int p) {
            return p >= 0 && p < people;
        }

        private boolean hasThought(int t) {
            return t >= 0 && t < thoughts;
        }

        private int windAt(int h) {
            return within(h, 0, TOP) ? winds[h] : 0;
        }

        private static int faded(int lift, int fade, int m) {
            return Math.max(0, lift - m * fade);
        }

        /** Who is out of breath still thinks, but holds nothing. */
        private int hold(Flight flight) {
            int p = flight.thinker;
            int t = flight.idea;
            int m = flight.minute - flight.since;
            if (!hasPerson(p) || !hasThought(t) || m > breaths[p]) {
                return 0;
            }
            return faded(lifts[t], fades[t], m);
        }

        private int load(Flight flight) {
            int sum = 0;
            for (int p = 0; p < people; p++) {
                sum += flight.hasAboard(p) ? weights[p] : 0;
            }
            return sum;
        }

        private void passMinutes(Flight flight, int n) {
            for (int i = 0; i < n; i++) {
                passMinute(flight);
            }
        }

        private void passMinute(Flight flight) {
            flight.minute++;
            if (flight.lost) {
                return;
            }
            int spare = hold(flight) - load(flight);
            flight.climb(spare > 0 ? 1 : spare < 0 ? -1 : 0);
            flight.drift(windAt(flight.height));
        }

        private boolean canLift(int t, int p) {
            return lifts[t] > weights[p];
        }

        /** Bits of the thoughts that lift a person. */
        private int liftsOf(int p) {
            int bits = 0;
            for (int t = 0; t < thoughts; t++) {
                bits |= canLift(t, p) ? 1 << t : 0;
            }
            return bits;
        }

        private int cover() {
            int least = NONE;
            for (int set = 0; set < 1 << thoughts; set++) {
                if (covers(set) && (least == NONE || Integer.bitCount(set) < Integer.bitCount(least))) {
                    least = set;
                }
            }
            return least;
        }

        private boolean covers(int set) {
            for (int p = 0; p < people; p++) {
                if ((liftsOf(p) & set) == 0) {
                    return false;
                }
            }
            return true;
        }

        /**
         * The first of the ways in which the most people have a thought of their own. A way is a number whose
         * digits are the people's thoughts, person 0's the highest, with the number of thoughts for none: so a
         * lesser way stands ahead of a greater.
         */
        private int firstOwnWay() {
            int ways = 1;
            for (int p = 0; p < people; p++) {
                ways *= thoughts + 1;
            }
            int first = 0;
            int most = -1;
            for (int way = 0; way < ways; way++) {
                int number = countOwn(way);
                if (number > most) {
                    most = number;
                    first = way;
                }
            }
            return first;
        }

        /** How many have a thought in this way; -1 if two have the same, or one has a thought that can't lift him. */
        private int countOwn(int way) {
            int taken = 0;
            for (int p = 0; p < people; p++) {
                int t = ownIn(way, p);
                if (t != NONE) {
                    if (!canLift(t, p) || (taken >> t & 1) == 1) {
                        return -1;
                    }
                    taken |= 1 << t;
                }
            }
            return Integer.bitCount(taken);
        }

        private int ownIn(int way, int p) {
            int base = thoughts + 1;
            int rest = way;
            for (int later = p + 1; later < people; later++) {
                rest /= base;
            }
            int digit = rest % base;
            return digit < thoughts ? digit : NONE;
        }
    }

    /** THE TEXT, and how it is read. */
    private static final class Text {
        private static final int END = 0, LETTERS = 1, NUMBER = 2, SEMICOLON = 3, NOTHING = 4;
        /** A number that stands for all that are beyond 99 or have a 0 ahead: greater than any may be. */
        private static final int UNFIT = 100;
        private static final int WIND = 0, PERSON = 1, THOUGHT = 2, START = 3;
        private static final int MOST_NUMBERS = 3;
        /** For each item, the numbers it takes and, MOST_NUMBERS apart, the least and the most they may be. */
        private static final int[] NUMBERS = {2, 3, 2, 1};
        private static final int[] LEAST = {1, 0, 0, 0, 1, 0, 1, 0, 0, 0, 0, 0};
        private static final int[] MOST = {9, 6, 0, 9, 9, 1, 30, 5, 0, 40, 0, 0};

        private final int[] bytes = new int[MOST_BYTES];
        private int length = 0;
        /** Where the next token is looked for, and the latest token: what it is, where it begins, what it says. */
        private int at, token, place, value;
        private final int[] numbers = new int[MOST_NUMBERS];
        private boolean startIsTold;

        private int add(int c) {
            if (length >= MOST_BYTES) {
                return FULL;
            }
            bytes[length] = c;
            length++;
            return length;
        }

        private int drop() {
            int had = length;
            length = 0;
            return had;
        }

        /** How many items there are; -10 less the fault, and then what the draft holds is worth nothing. */
        private int readInto(Told draft) {
            draft.tellNothing();
            startIsTold = false;
            at = 0;
            readToken();
            int items = 0;
            while (token != END && items < MOST_BYTES) {
                if (!readItem(draft)) {
                    return -10 - place;
                }
                items++;
            }
            return items;
        }

        /** Reads the item that the latest token begins, and the token behind it; or stops at the one at fault. */
        private boolean readItem(Told draft) {
            int item = itemBegun(draft);
            if (item == NONE) {
                return false;
            }
            for (int i = 0; i < NUMBERS[item]; i++) {
                readToken();
                int row = MOST_NUMBERS * item + i;
                if (token != NUMBER || !within(value, LEAST[row], MOST[row])) {
                    return false;
                }
                numbers[i] = value;
            }
            readToken();
            if (token != SEMICOLON) {
                return false;
            }
            tell(draft, item);
            readToken();
            return true;
        }

        private int itemBegun(Told draft) {
            if (token != LETTERS) {
                return NONE;
            }
            switch (value) {
                case 'w': return WIND;
                case 'p': return draft.people < MOST_PEOPLE ? PERSON : NONE;
                case 't': return draft.thoughts < MOST_THOUGHTS ? THOUGHT : NONE;
                case 'x': return startIsTold ? NONE : START;
                default: return NONE;
            }
        }

        private void tell(Told draft, int item) {
            switch (item) {
                case WIND:
                    draft.tellWind(numbers[0], numbers[1]);
                    break;
                case PERSON:
                    draft.tellPerson(numbers[0], numbers[1], numbers[2]);
                    break;
                case THOUGHT:
                    draft.tellThought(numbers[0], numbers[1]);
                    break;
                default:
                    draft.start = numbers[0];
                    startIsTold = true;
                    break;
            }
        }

        private void readToken() {
            while (at < length && bytes[at] == ' ') {
                at++;
            }
            place = at;
            value = 0;
            if (at >= length) {
                token = END;
            } else if (isLetter(bytes[at])) {
                readLetters();
            } else if (isDigit(bytes[at])) {
                readNumber();
            } else {
                token = bytes[at] == ';' ? SEMICOLON : NOTHING;
                at++;
            }
        }

        /** The value is the letter, if there is just one, and 0 else, as no item is begun by more. */
        private void readLetters() {
            token = LETTERS;
            value = bytes[at];
            at++;
            while (at < length && isLetter(bytes[at])) {
                value = 0;
                at++;
            }
        }

        private void readNumber() {
            token = NUMBER;
            value = bytes[at] - '0';
            boolean zeroAhead = value == 0;
            at++;
            while (at < length && isDigit(bytes[at])) {
                value = zeroAhead ? UNFIT : Math.min(UNFIT, 10 * value + bytes[at] - '0');
                at++;
            }
        }

        private static boolean isLetter(int c) {
            return c >= 'a' && c <= 'z';
        }

        private static boolean isDigit(int c) {
            return c >= '0' && c <= '9';
        }
    }

    /** Looks through all rows of turns for the first behind which the cell, or the height, is greatest. */
    private static final class Search {
        /** The flight ahead of each turn, and behind the last. */
        private final Flight[] flights = new Flight[MOST_TURNS + 1];
        private final int[] row = new int[MOST_TURNS];
        private final int[] found = new int[MOST_TURNS];
        /** By turns left and height: the most cells that any heights, each next to the one before, could bring. */
        private final int[][] reach = new int[MOST_TURNS + 1][TOP + 1];
        private int turns, what, greatest;

        private Search() {
            for (int i = 0; i <= MOST_TURNS; i++) {
                flights[i] = new Flight();
            }
        }

        private void run(Told told, Flight flight, int n, int cellOrHeight) {
            turns = Math.min(n, MOST_TURNS);
            what = cellOrHeight;
            greatest = -1;
            fillReach(told);
            flights[0].copyFrom(flight);
            tryTurns(told, 0);
        }

        private void fillReach(Told told) {
            Arrays.fill(reach[0], 0);
            for (int left = 1; left <= MOST_TURNS; left++) {
                for (int h = 0; h <= TOP; h++) {
                    reach[left][h] = told.windAt(h) + reach[left - 1][h];
                    for (int next = Math.max(0, h - 1); next <= Math.min(TOP, h + 1); next++) {
                        reach[left][h] = Math.max(reach[left][h], told.windAt(next) + reach[left - 1][next]);
                    }
                }
            }
        }

        /** Rows are tried in their order, so that only a greater end is worth more than the one found. */
        private void tryTurns(Told told, int k) {
            if (k > MOST_TURNS || bound(k) <= greatest) {
                return;
            }
            if (k >= turns) {
                greatest = bound(k);
                System.arraycopy(row, 0, found, 0, MOST_TURNS);
                return;
            }
            tryTurn(told, k, NONE, NONE);
            if (flights[k].lost) {
                return;
            }
            for (int p = 0; p < told.people; p++) {
                for (int t = 0; t < told.thoughts; t++) {
                    if (flights[k].mayBegin(p, t) && bound(k) > greatest) {
                        tryTurn(told, k, p, t);
                    }
                }
            }
        }

        private void tryTurn(Told told, int k, int p, int t) {
            Flight next = flights[k + 1];
            next.copyFrom(flights[k]);
            row[k] = NONE;
            if (p != NONE) {
                next.begin(p, t);
                row[k] = MOST_THOUGHTS * p + t;
            }
            told.passMinute(next);
            tryTurns(told, k + 1);
        }

        /**
         * What no row can pass from here; what there is, if no turns are left. A car that is lost on the way is
         * within it: beyond the last cell it could have gone on at that height, and cell 0 is the least of all.
         */
        private int bound(int k) {
            Flight flight = flights[k];
            int left = flight.lost ? 0 : turns - k;
            if (what == 1) {
                return Math.min(TOP, flight.height + left);
            }
            return Math.max(0, Math.min(LAST_CELL, flight.cell + reach[left][flight.height]));
        }
    }

    /** Of 10 to the power of the minutes that went by, how many turns of the wind bring the car to each cell. */
    private static final class Odds {
        private final int[] ways = new int[LAST_CELL + 1];
        private final int[] before = new int[LAST_CELL + 1];
        private int all;

        private void startAt(int cell) {
            Arrays.fill(ways, 0);
            if (within(cell, 0, LAST_CELL)) {
                ways[cell] = 1;
            }
            all = 1;
        }

        private void spread(int wind, int turned) {
            System.arraycopy(ways, 0, before, 0, LAST_CELL + 1);
            Arrays.fill(ways, 0);
            for (int cell = 0; cell <= LAST_CELL; cell++) {
                carry(before[cell] * (10 - turned), cell + wind);
                carry(before[cell] * turned, cell - wind);
            }
            all *= 10;
        }

        private void carry(int number, int to) {
            if (within(to, 0, LAST_CELL)) {
                ways[to] += number;
            }
        }

        private int upper(int cell) {
            return ways[cell] / common(cell);
        }

        private int lower(int cell) {
            return all / common(cell);
        }

        /** The greatest common divisor, which is at least 1, as there is always a way at all. */
        private int common(int cell) {
            int a = all;
            int b = ways[cell];
            for (int i = 0; i < 100 && b != 0; i++) {
                int rest = a % b;
                a = b;
                b = rest;
            }
            return Math.max(1, a);
        }
    }

    /** What was seen, or heard: of whom, in which minute, and what it was. */
    private static final class Reports {
        private final int[] people = new int[MOST_REPORTS];
        private final int[] minutes = new int[MOST_REPORTS];
        private final int[] values = new int[MOST_REPORTS];
        private int size = 0;

        private int add(int p, int m, int v) {
            if (size >= MOST_REPORTS) {
                return FULL;
            }
            people[size] = p;
            minutes[size] = m;
            values[size] = v;
            size++;
            return size;
        }

        private int drop() {
            int had = size;
            size = 0;
            return had;
        }
    }
}
