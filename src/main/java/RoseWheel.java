import java.util.Arrays;

/**
 * The rose window as a wheel of fortune. Nothing here throws: what cannot be done is answered by a
 * number below 0, and then nothing has changed.
 */
public final class RoseWheel {
    public static final int BAD = -1, STATE = -2, FULL = -3, NONE = -9;
    public static final int NO = -1000000;

    private static final int LEAD = 0, RUBY = 1, BLUE = 2, GREEN = 3;
    private static final int COLOURS = 6;
    private static final int MOST_PANES = 12, MOST_PEOPLE = 6, MOST_BYTES = 150;
    private static final int MOST_SPEED = 60, MOST_HOURS = 11, MOST_FEASTS = 999, MOST_OWED = 99, MOST_PATIENCE = 99;
    private static final int MOST_UNDONE = 10, MOST_NOTED = 6, IMAGES = 2;
    private static final int MOST_KEEPS = 9, MOST_DRAG = 9, LAWS = 90, MOST_HEARD_CLICKS = 999;
    /** What 60 has by KEEPS 9 and DRAG 1; no speed has more by any law. */
    private static final int MOST_CLICKS = 382;
    private static final int NOBODY = -1;
    /** Asked for in place of one: how it is with all of them. */
    private static final int ALL = -1;
    /** What a refused text answers for FAULT 0. */
    private static final int FIRST_FAULT = -10;

    private final Text text = new Text();
    private Window window = new Window();
    /** Takes what a text tells, and changes places with window when the text had no fault. */
    private Window draft = new Window();
    private final Days days = new Days();
    private final Days[] images = {new Days(), new Days()};
    private final boolean[] kept = new boolean[IMAGES];
    private final Notes seen = new Notes();
    private final Notes heard = new Notes();
    private final Asked asked = new Asked();
    private final One[] kinds = {new One(), new Blind(), new Beadle(), new Cripple(), new Daughter(), new Dog()};
    private final int[] lawsThatFit = new int[LAWS];
    private final int[] lawsByClicks = new int[MOST_CLICKS + 1];
    private final int[] speedsByColour = new int[COLOURS];
    private final int[] freeByColour = new int[COLOURS];
    private final int[] wantedByColour = new int[COLOURS];
    private final int[] seatOf = new int[MOST_PEOPLE];

    public RoseWheel() {
    }

    // ---- the window

    public int type(int c) {
        if (!isWithin(c, 0, 255)) {
            return BAD;
        }
        return text.add(c) ? text.length : FULL;
    }

    public int clear() {
        int had = text.length;
        text.length = 0;
        return had;
    }

    public int rose() {
        int items = text.readInto(draft);
        if (items < 0) {
            return items;
        }
        Window told = draft;
        draft = window;
        window = told;
        text.length = 0;
        days.begin(window);
        seen.size = 0;
        heard.size = 0;
        for (int i = 0; i < kept.length; i++) {
            kept[i] = false;
        }
        return items;
    }

    public int pane(int p) {
        return window.hasSpot(p) ? window.panes[p] : BAD;
    }

    public int one(int p, int what) {
        if (!window.hasPerson(p)) {
            return BAD;
        }
        switch (what) {
            case 0:
                return days.value(Days.SPOT + p);
            case 1:
                return window.wants[p];
            case 2:
                return colourOf(p);
            case 3:
                return days.value(Days.PATIENCE + p);
            case 4:
                return owedByAll(p);
            default:
                return BAD;
        }
    }

    public int owed(int p, int q) {
        return areTwo(p, q) ? days.value(Days.debt(p, q)) : BAD;
    }

    // ---- what is done

    public int spins(int v) {
        if (!isSpeed(v)) {
            return BAD;
        }
        if (window.paneCount == 0) {
            return STATE;
        }
        if (days.value(Days.FEASTS) >= MOST_FEASTS) {
            return FULL;
        }
        days.remember();
        days.put(Days.TURN, turnBehind(v));
        holdFeast();
        return days.value(Days.TURN);
    }

    public int goes(int p, int spot) {
        if (!window.hasPerson(p) || !window.hasSpot(spot)) {
            return BAD;
        }
        if (whoIsOn(spot) != NOBODY) {
            return STATE;
        }
        int from = days.value(Days.SPOT + p);
        days.remember();
        days.put(Days.SPOT + p, spot);
        return from;
    }

    public int passes(int n) {
        if (!isWithin(n, 1, MOST_HOURS)) {
            return BAD;
        }
        if (window.paneCount == 0) {
            return STATE;
        }
        days.remember();
        days.put(Days.HOUR, window.roundThe(days.value(Days.HOUR) + n));
        return days.value(Days.HOUR);
    }

    public int covers(int is) {
        if (!isWithin(is, 0, 1)) {
            return BAD;
        }
        if (days.value(Days.CLOUD) == is) {
            return STATE;
        }
        days.remember();
        days.put(Days.CLOUD, is);
        int inLead = 0;
        for (int p = 0; p < window.people; p++) {
            if (colourOf(p) == LEAD) {
                inLead++;
            }
        }
        return inLead;
    }

    public int forgives(int p, int q) {
        if (!areTwo(p, q)) {
            return BAD;
        }
        int was = days.value(Days.debt(p, q));
        if (was == 0) {
            return STATE;
        }
        days.remember();
        days.put(Days.debt(p, q), 0);
        return was;
    }

    public int undo() {
        if (days.undoable == 0) {
            return STATE;
        }
        days.undoable--;
        return days.undoable;
    }

    public int now(int what) {
        switch (what) {
            case 0:
                return days.value(Days.TURN);
            case 1:
                return days.value(Days.HOUR);
            case 2:
                return days.value(Days.CLOUD);
            case 3:
                return days.value(Days.FEASTS);
            case 4:
                return owedInAll();
            case 5:
                return window.leastLikeTurn();
            case 6:
                return ringOfDebts();
            default:
                return BAD;
        }
    }

    // ---- spins

    public int clicks(int v) {
        return isSpeed(v) ? window.clicksOf(v) : BAD;
    }

    public int stops(int v) {
        if (!isSpeed(v)) {
            return BAD;
        }
        return window.paneCount == 0 ? STATE : turnBehind(v);
    }

    public int shade(int spot, int v) {
        return window.hasSpot(spot) && isSpeed(v) ? colourBehind(spot, v) : BAD;
    }

    public int speeds(int spot, int colour, int what) {
        if (!window.hasSpot(spot) || !isColour(colour) || !isWithin(what, 0, 1)) {
            return BAD;
        }
        return what == 0 ? speedsFor(spot, colour, MOST_SPEED) : leastSpeedFor(spot, colour);
    }

    public int steps(int p, int colour, int v, int what) {
        if (!window.hasPerson(p) || !isColour(colour) || !isSpeed(v) || !isWithin(what, 0, 1)) {
            return BAD;
        }
        int from = days.value(Days.SPOT + p);
        int fewest = NONE;
        int nearest = NONE;
        for (int spot = 0; spot < window.paneCount; spot++) {
            int who = whoIsOn(spot);
            boolean open = who == NOBODY || who == p;
            if (open && colourBehind(spot, v) == colour) {
                int way = window.wayRound(from, spot);
                if (fewest == NONE || way < fewest) {
                    fewest = way;
                    nearest = spot;
                }
            }
        }
        return what == 0 ? fewest : nearest;
    }

    public int chair(int colour, int what) {
        if (!isColour(colour) || !isWithin(what, 0, 1)) {
            return BAD;
        }
        int best = NONE;
        int most = NONE;
        for (int spot = 0; spot < window.paneCount; spot++) {
            int many = speedsFor(spot, colour, MOST_SPEED);
            if (best == NONE || many > most) {
                best = spot;
                most = many;
            }
        }
        return what == 0 ? best : most;
    }

    public int seats(int v, int p) {
        if (!isSpeed(v) || (p != ALL && !window.hasPerson(p))) {
            return BAD;
        }
        if (window.paneCount == 0) {
            return STATE;
        }
        int best = seatAll(v);
        return p == ALL ? best : seatOf[p];
    }

    public int odds(int spot, int colour, int m, int x, int what) {
        if (!window.hasSpot(spot) || !isColour(colour) || !isSpeed(m) || !isWithin(x, 0, 10) || !isWithin(what, 0, 1)) {
            return BAD;
        }
        int withoutCloud = (10 - x) * speedsFor(spot, colour, m);
        int underCloud = colour == LEAD ? x * m : 0;
        int upper = withoutCloud + underCloud;
        int lower = 10 * m;
        int shared = commonDivisor(lower, upper);
        if (shared == 0) {
            return BAD;
        }
        return what == 0 ? upper / shared : lower / shared;
    }

    // ---- what was seen, heard

    public int saw(int spot, int colour) {
        if (!window.hasSpot(spot) || !isColour(colour)) {
            return BAD;
        }
        return seen.add(spot, colour) ? seen.size : FULL;
    }

    public int spun(int what) {
        if (!isWithin(what, 0, 2)) {
            return BAD;
        }
        int many = 0;
        int least = NONE;
        int greatest = NONE;
        for (int v = 1; v <= MOST_SPEED; v++) {
            if (isAsSeen(v)) {
                many++;
                least = least == NONE ? v : least;
                greatest = v;
            }
        }
        if (what == 0) {
            return many;
        }
        return what == 1 ? least : greatest;
    }

    public int look() {
        long fitting = speedsAsSeen();
        if (fitting == 0) {
            return NONE;
        }
        int best = NONE;
        int least = NONE;
        for (int spot = 0; spot < window.paneCount; spot++) {
            int most = mostOfOneColour(spot, fitting);
            if (best == NONE || most < least) {
                best = spot;
                least = most;
            }
        }
        return best;
    }

    public int hears(int v, int c) {
        if (!isSpeed(v) || !isWithin(c, 0, MOST_HEARD_CLICKS)) {
            return BAD;
        }
        return heard.add(v, c) ? heard.size : FULL;
    }

    public int laws(int what) {
        if (!isWithin(what, 0, 1)) {
            return BAD;
        }
        int many = findLaws();
        if (what == 0) {
            return many;
        }
        return many == 0 ? NONE : lawsThatFit[0];
    }

    public int tryNext() {
        int many = findLaws();
        if (many == 0) {
            return NONE;
        }
        int best = NONE;
        int least = NONE;
        for (int v = 1; v <= MOST_SPEED; v++) {
            int most = mostOfOneSound(v, many);
            if (best == NONE || most < least) {
                best = v;
                least = most;
            }
        }
        return best;
    }

    public int forget() {
        int both = seen.size + heard.size;
        seen.size = 0;
        heard.size = 0;
        return both;
    }

    // ---- kinds, images

    public int mark(int kind, int p) {
        if (!isWithin(kind, 0, kinds.length - 1) || !window.hasPerson(p)) {
            return NO;
        }
        asked.number = p;
        asked.spot = days.value(Days.SPOT + p);
        asked.colour = colourOf(p);
        asked.patience = days.value(Days.PATIENCE + p);
        asked.feasts = days.value(Days.FEASTS);
        return kinds[kind].worth(asked);
    }

    public int keep(int image) {
        if (!isWithin(image, 0, IMAGES - 1)) {
            return BAD;
        }
        images[image].become(days);
        kept[image] = true;
        return days.value(Days.FEASTS);
    }

    public int back(int image) {
        if (!isWithin(image, 0, IMAGES - 1)) {
            return BAD;
        }
        if (!kept[image]) {
            return STATE;
        }
        days.become(images[image]);
        return days.value(Days.FEASTS);
    }

    public int count(int what) {
        switch (what) {
            case 0:
                return window.paneCount;
            case 1:
                return window.keeps;
            case 2:
                return window.drag;
            case 3:
                return window.people;
            case 4:
                return seen.size;
            case 5:
                return heard.size;
            case 6:
                return days.undoable;
            case 7:
                return text.length;
            default:
                return BAD;
        }
    }

    public long trace() {
        return asked.trace;
    }

    // ---- what numbers may be

    private static boolean isWithin(int n, int low, int high) {
        return n >= low && n <= high;
    }

    private static boolean isSpeed(int v) {
        return isWithin(v, 1, MOST_SPEED);
    }

    private static boolean isColour(int colour) {
        return isWithin(colour, 0, COLOURS - 1);
    }

    private boolean areTwo(int p, int q) {
        return p != q && window.hasPerson(p) && window.hasPerson(q);
    }

    // ---- who stands in what, who owes whom

    private int colourOf(int p) {
        if (days.value(Days.CLOUD) == 1) {
            return LEAD;
        }
        return window.colourAt(days.value(Days.SPOT + p), days.value(Days.TURN) + days.value(Days.HOUR));
    }

    private int whoIsOn(int spot) {
        for (int p = 0; p < window.people; p++) {
            if (days.value(Days.SPOT + p) == spot) {
                return p;
            }
        }
        return NOBODY;
    }

    private void holdFeast() {
        days.put(Days.FEASTS, days.value(Days.FEASTS) + 1);
        for (int p = 0; p < window.people; p++) {
            int colour = colourOf(p);
            if (colour == RUBY) {
                oweBlueTo(p);
            }
            int patience = Math.min(days.value(Days.PATIENCE + p) + 1, MOST_PATIENCE);
            days.put(Days.PATIENCE + p, colour == GREEN ? patience : 0);
        }
    }

    private void oweBlueTo(int p) {
        for (int q = 0; q < window.people; q++) {
            if (colourOf(q) == BLUE) {
                days.put(Days.debt(p, q), Math.min(days.value(Days.debt(p, q)) + 1, MOST_OWED));
            }
        }
    }

    private int owedByAll(int p) {
        int sum = 0;
        for (int q = 0; q < window.people; q++) {
            sum += days.value(Days.debt(p, q));
        }
        return sum;
    }

    private int owedInAll() {
        int sum = 0;
        for (int p = 0; p < window.people; p++) {
            sum += owedByAll(p);
        }
        return sum;
    }

    private int ringOfDebts() {
        int ring = 0;
        for (int p = 0; p < window.people; p++) {
            if ((debtorsBehind(p) >> p & 1) == 1) {
                ring |= 1 << p;
            }
        }
        return ring;
    }

    /** Bits of all who owe to p, to one of these, and so on: each round takes the chains one longer. */
    private int debtorsBehind(int p) {
        int reached = debtorsOf(p);
        for (int round = 1; round < window.people; round++) {
            int before = reached;
            for (int q = 0; q < window.people; q++) {
                if ((before >> q & 1) == 1) {
                    reached |= debtorsOf(q);
                }
            }
        }
        return reached;
    }

    private int debtorsOf(int p) {
        int bits = 0;
        for (int q = 0; q < window.people; q++) {
            if (days.value(Days.debt(p, q)) > 0) {
                bits |= 1 << q;
            }
        }
        return bits;
    }

    // ---- where the wheel stops

    private int turnBehind(int v) {
        return window.roundThe(days.value(Days.TURN) + window.clicksOf(v));
    }

    private int colourBehind(int spot, int v) {
        return window.colourAt(spot, turnBehind(v) + days.value(Days.HOUR));
    }

    private int speedsFor(int spot, int colour, int most) {
        int many = 0;
        for (int v = 1; v <= most; v++) {
            if (colourBehind(spot, v) == colour) {
                many++;
            }
        }
        return many;
    }

    private int leastSpeedFor(int spot, int colour) {
        for (int v = 1; v <= MOST_SPEED; v++) {
            if (colourBehind(spot, v) == colour) {
                return v;
            }
        }
        return NONE;
    }

    private static int commonDivisor(int a, int b) {
        int greater = a;
        int lesser = b;
        // the rest becomes less each time; numbers as small as these need no twenty rounds
        for (int round = 0; round < 64 && lesser > 0; round++) {
            int rest = greater % lesser;
            greater = lesser;
            lesser = rest;
        }
        return greater;
    }

    /**
     * One behind another takes the lowest SPOT that still lets as many have what they WANT. A SPOT has
     * one COLOUR, so how many can is known by counting: no ways have to be tried.
     */
    private int seatAll(int v) {
        Arrays.fill(freeByColour, 0);
        Arrays.fill(wantedByColour, 0);
        for (int spot = 0; spot < window.paneCount; spot++) {
            freeByColour[colourBehind(spot, v)]++;
        }
        for (int p = 0; p < window.people; p++) {
            wantedByColour[window.wants[p]]++;
        }
        int best = mostServed();
        int toServe = best;
        int taken = 0;
        for (int p = 0; p < window.people; p++) {
            wantedByColour[window.wants[p]]--;
            int spot = lowestSeat(p, v, taken, toServe);
            seatOf[p] = spot;
            taken |= 1 << spot;
            if (colourBehind(spot, v) == window.wants[p]) {
                toServe--;
            }
        }
        return best;
    }

    /** The lowest SPOT by which toServe of p and those behind have what they WANT; it is no longer free then. */
    private int lowestSeat(int p, int v, int taken, int toServe) {
        for (int spot = 0; spot < window.paneCount; spot++) {
            if ((taken >> spot & 1) == 0) {
                int colour = colourBehind(spot, v);
                int served = colour == window.wants[p] ? 1 : 0;
                freeByColour[colour]--;
                if (served + mostServed() == toServe) {
                    return spot;
                }
                freeByColour[colour]++;
            }
        }
        return 0;
    }

    private int mostServed() {
        int served = 0;
        for (int colour = 0; colour < COLOURS; colour++) {
            served += Math.min(freeByColour[colour], wantedByColour[colour]);
        }
        return served;
    }

    // ---- what fits what was seen, heard

    private boolean isAsSeen(int v) {
        for (int i = 0; i < seen.size; i++) {
            if (colourBehind(seen.first[i], v) != seen.second[i]) {
                return false;
            }
        }
        return true;
    }

    /** Bit v for each speed v by which all that was SEEN is so. */
    private long speedsAsSeen() {
        long bits = 0;
        for (int v = 1; v <= MOST_SPEED; v++) {
            if (isAsSeen(v)) {
                bits |= 1L << v;
            }
        }
        return bits;
    }

    private int mostOfOneColour(int spot, long fitting) {
        Arrays.fill(speedsByColour, 0);
        int most = 0;
        for (int v = 1; v <= MOST_SPEED; v++) {
            if ((fitting >> v & 1) == 1) {
                int colour = colourBehind(spot, v);
                speedsByColour[colour]++;
                most = Math.max(most, speedsByColour[colour]);
            }
        }
        return most;
    }

    /** Puts the LAWS into lawsThatFit, each as 10 times KEEPS and DRAG, and answers how many they are. */
    private int findLaws() {
        int many = 0;
        for (int keeps = 0; keeps <= MOST_KEEPS; keeps++) {
            for (int drag = 1; drag <= MOST_DRAG; drag++) {
                if (isAsHeard(keeps, drag) && many < lawsThatFit.length) {
                    lawsThatFit[many] = 10 * keeps + drag;
                    many++;
                }
            }
        }
        return many;
    }

    private boolean isAsHeard(int keeps, int drag) {
        for (int i = 0; i < heard.size; i++) {
            if (Window.clicksBy(heard.first[i], keeps, drag) != heard.second[i]) {
                return false;
            }
        }
        return true;
    }

    private int mostOfOneSound(int v, int many) {
        Arrays.fill(lawsByClicks, 0);
        int most = 0;
        for (int i = 0; i < many && i < lawsThatFit.length; i++) {
            int sound = Window.clicksBy(v, lawsThatFit[i] / 10, lawsThatFit[i] % 10);
            if (isWithin(sound, 0, MOST_CLICKS)) {
                lawsByClicks[sound]++;
                most = Math.max(most, lawsByClicks[sound]);
            }
        }
        return most;
    }

    /** What a text tells: the PANES, how the wheel slows, the PEOPLE and where they stand at first. */
    private static final class Window {
        final int[] panes = new int[MOST_PANES];
        final int[] places = new int[MOST_PEOPLE];
        final int[] wants = new int[MOST_PEOPLE];
        int paneCount = 0;
        int people = 0;
        int keeps = 8;
        int drag = 1;

        void empty() {
            paneCount = 0;
            people = 0;
            keeps = 8;
            drag = 1;
        }

        boolean hasSpot(int spot) {
            return spot >= 0 && spot < paneCount && spot < panes.length;
        }

        boolean hasPerson(int p) {
            return p >= 0 && p < people && p < wants.length;
        }

        boolean isPlaceTold(int spot) {
            for (int p = 0; p < people; p++) {
                if (places[p] == spot) {
                    return true;
                }
            }
            return false;
        }

        int roundThe(int n) {
            return paneCount > 0 ? Math.floorMod(n, paneCount) : 0;
        }

        int wayRound(int from, int to) {
            return Math.min(roundThe(to - from), roundThe(from - to));
        }

        int colourAt(int spot, int turned) {
            return panes[roundThe(spot + turned)];
        }

        int leastLikeTurn() {
            for (int turn = 1; turn <= paneCount; turn++) {
                if (isAlike(turn)) {
                    return turn;
                }
            }
            return NONE;
        }

        boolean isAlike(int turn) {
            for (int p = 0; p < paneCount; p++) {
                if (panes[p] != colourAt(p, turn)) {
                    return false;
                }
            }
            return true;
        }

        int clicksOf(int v) {
            return clicksBy(v, keeps, drag);
        }

        static int clicksBy(int v, int keeps, int drag) {
            int all = 0;
            int speed = v;
            // it becomes less by at least 1 each time, so the counter only makes the end plain
            for (int times = 0; times < MOST_SPEED && speed > 0; times++) {
                all += speed;
                speed = speed * keeps / 10 - drag;
            }
            return all;
        }
    }

    /** THE TEXT, and the reading of it TOKEN by TOKEN. */
    private static final class Text {
        static final int END = 0, LETTERS = 1, NUMBER = 2, SEMICOLON = 3, WRONG = 4;

        final int[] bytes = new int[MOST_BYTES];
        int length = 0;

        int next;
        int start;
        int token;
        /** Of a NUMBER its value; of LETTERS the letter, if it is one alone, else 0. */
        int value;
        boolean keepsTold;
        boolean dragTold;

        boolean add(int c) {
            if (length >= bytes.length) {
                return false;
            }
            bytes[length] = c;
            length++;
            return true;
        }

        /** How many ITEMS were told, or -10 less FAULT. */
        int readInto(Window told) {
            told.empty();
            next = 0;
            keepsTold = false;
            dragTold = false;
            for (int items = 0; items <= MOST_BYTES; items++) {
                readToken();
                if (token == END) {
                    return items;
                }
                if (!readItem(told)) {
                    break;
                }
            }
            return FIRST_FAULT - start;
        }

        /** Whether the ITEM that the TOKEN at hand begins may stand there; if not, the TOKEN read last is the fault. */
        boolean readItem(Window told) {
            if (token != LETTERS) {
                return false;
            }
            switch (value) {
                case 'c':
                    return readPane(told);
                case 'k':
                    return readKeeps(told);
                case 'd':
                    return readDrag(told);
                case 'p':
                    return readPerson(told);
                default:
                    return false;
            }
        }

        boolean readPane(Window told) {
            if (told.paneCount >= MOST_PANES || !readNumber(0, COLOURS - 1)) {
                return false;
            }
            told.panes[told.paneCount] = value;
            told.paneCount++;
            return readSemicolon();
        }

        boolean readKeeps(Window told) {
            if (keepsTold || !readNumber(0, MOST_KEEPS)) {
                return false;
            }
            keepsTold = true;
            told.keeps = value;
            return readSemicolon();
        }

        boolean readDrag(Window told) {
            if (dragTold || !readNumber(1, MOST_DRAG)) {
                return false;
            }
            dragTold = true;
            told.drag = value;
            return readSemicolon();
        }

        boolean readPerson(Window told) {
            if (told.people >= MOST_PEOPLE || !readNumber(0, told.paneCount - 1) || told.isPlaceTold(value)) {
                return false;
            }
            told.places[told.people] = value;
            if (!readNumber(1, COLOURS - 1)) {
                return false;
            }
            told.wants[told.people] = value;
            told.people++;
            return readSemicolon();
        }

        boolean readNumber(int low, int high) {
            readToken();
            return token == NUMBER && value >= low && value <= high;
        }

        boolean readSemicolon() {
            readToken();
            return token == SEMICOLON;
        }

        void readToken() {
            while (next < length && byteAt(next) == ' ') {
                next++;
            }
            start = next;
            value = 0;
            int c = byteAt(start);
            if (start >= length) {
                token = END;
            } else if (isLetter(c)) {
                readLetters();
            } else if (isDigit(c)) {
                readDigits();
            } else {
                token = c == ';' ? SEMICOLON : WRONG;
                next++;
            }
        }

        void readLetters() {
            token = LETTERS;
            while (next < length && isLetter(byteAt(next))) {
                next++;
            }
            value = next - start == 1 ? byteAt(start) : 0;
        }

        void readDigits() {
            while (next < length && isDigit(byteAt(next))) {
                // above 99 it stays above, however many there are
                value = Math.min(value * 10 + byteAt(next) - '0', 100);
                next++;
            }
            boolean zeroAhead = byteAt(start) == '0' && next - start > 1;
            token = zeroAhead || value > 99 ? WRONG : NUMBER;
        }

        int byteAt(int place) {
            return place >= 0 && place < length && place < bytes.length ? bytes[place] : 0;
        }

        static boolean isLetter(int c) {
            return c >= 'a' && c <= 'z';
        }

        static boolean isDigit(int c) {
            return c >= '0' && c <= '9';
        }
    }

    /**
     * NOW and what may be UNDONE, as rows of one array: the first rows are the past, the row behind
     * them is NOW. So to undo is to count one row less, and an IMAGE is a copy of all.
     */
    private static final class Days {
        static final int TURN = 0, HOUR = 1, CLOUD = 2, FEASTS = 3, SPOT = 4;
        static final int PATIENCE = SPOT + MOST_PEOPLE;
        static final int OWED = PATIENCE + MOST_PEOPLE;
        static final int ROW = OWED + MOST_PEOPLE * MOST_PEOPLE;

        final int[] cells = new int[(MOST_UNDONE + 1) * ROW];
        int undoable = 0;

        static int debt(int p, int q) {
            return OWED + p * MOST_PEOPLE + q;
        }

        int value(int cell) {
            int place = undoable * ROW + cell;
            return place >= 0 && place < cells.length ? cells[place] : 0;
        }

        void put(int cell, int value) {
            int place = undoable * ROW + cell;
            if (place >= 0 && place < cells.length) {
                cells[place] = value;
            }
        }

        void begin(Window told) {
            Arrays.fill(cells, 0);
            undoable = 0;
            for (int p = 0; p < told.people; p++) {
                put(SPOT + p, told.places[p]);
            }
        }

        /** Lays NOW down as the latest of the past; of a full past the oldest row is lost. */
        void remember() {
            if (undoable < MOST_UNDONE) {
                System.arraycopy(cells, undoable * ROW, cells, (undoable + 1) * ROW, ROW);
                undoable++;
            } else {
                System.arraycopy(cells, ROW, cells, 0, MOST_UNDONE * ROW);
            }
        }

        void become(Days other) {
            System.arraycopy(other.cells, 0, cells, 0, cells.length);
            undoable = other.undoable;
        }
    }

    /** Twos of numbers that were noted: a SPOT and a COLOUR, or a speed and its CLICKS. */
    private static final class Notes {
        final int[] first = new int[MOST_NOTED];
        final int[] second = new int[MOST_NOTED];
        int size = 0;

        boolean add(int left, int right) {
            if (size >= first.length) {
                return false;
            }
            first[size] = left;
            second[size] = right;
            size++;
            return true;
        }
    }

    /** The one of whom a MARK is asked, and THE TRACE that the KINDS leave. */
    private static final class Asked {
        int number;
        int spot;
        int colour;
        int patience;
        int feasts;
        long trace = 0;
    }

    private static class One {
        int worth(Asked who) {
            who.trace += 1;
            return who.colour;
        }
    }

    private static class Blind extends One {
        int worth(Asked who) {
            who.trace += 10;
            return super.worth(who) + who.patience;
        }
    }

    private static class Beadle extends One {
        int worth(Asked who) {
            who.trace += 100;
            return super.worth(who) - who.spot;
        }
    }

    private static final class Cripple extends Blind {
        int worth(Asked who) {
            who.trace += 1000;
            return super.worth(who) * 2;
        }
    }

    private static final class Daughter extends Beadle {
        int worth(Asked who) {
            who.trace += 10000;
            return super.worth(who) + who.number;
        }
    }

    private static final class Dog extends One {
        int worth(Asked who) {
            who.trace += 100000;
            return super.worth(who) + who.feasts;
        }
    }
}
