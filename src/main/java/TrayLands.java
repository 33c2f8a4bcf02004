/**
 * A hotel whose trays are provinces: rooms, passages, waiters, things and orders are told in a
 * text; minutes pass, waiters meet and spill; what could be is tried without changing anything.
 */
public final class TrayLands {
    public static final int NONE = -1, UNKNOWN = -1000000001, OUTSIDE = -1000000002, NOT = -1000000003, FULL = -1000000004;

    private static final int MOST_LETTERS = 240;
    private static final int MOST_FIGURES = 3;
    private static final int MOST_ROOMS = 8;
    private static final int MOST_PASSAGES = 12;
    private static final int MOST_WAITERS = 4;
    private static final int MOST_THINGS = 8;
    private static final int MOST_ORDERS = 4;
    private static final int MOST_CARRIED = 999;
    private static final int MOST_TOLD = 99;
    private static final int MOST_STEPS = 9;
    private static final int LONGEST_ROUTE = 999999999;
    private static final int MOST_AT_ONCE = 60;
    private static final int LAST_MINUTE = 9000;
    private static final int FORESIGHT = 20;
    private static final int WAITS = 5;
    private static final int MOST_UNDONE = 20;
    private static final int MOST_SEEN = 6;
    private static final int MOST_WRITTEN = 15;
    private static final int MOST_IMAGES = 2;
    private static final int MOST_DAYS = 60;
    private static final long BILLION = 1000000000L;

    private static final int PANTRY = -1;
    private static final int SPILT = -2;
    private static final int ABSENT = -3;

    private static final int NO_FAULT = 0;
    private static final int MISPLACED = 1;
    private static final int OUT_OF_BOUNDS = 2;
    private static final int TOO_MANY = 3;
    private static final int SAME_PASSAGE = 4;

    private final Reader reader;
    private final Plan plan;
    private final State now;
    private final Past past;
    private final Clock clock;
    private final Delays delayed;
    private final Service service;
    private final Notes notes;
    private final Image[] images;

    public TrayLands() {
        Plan emptyPlan = new Plan();
        State emptyState = new State();
        Image[] noImages = new Image[MOST_IMAGES];
        for (int i = 0; i < MOST_IMAGES; i++) {
            noImages[i] = new Image();
        }
        reader = new Reader();
        plan = emptyPlan;
        now = emptyState;
        past = new Past();
        clock = new Clock(emptyPlan, emptyState);
        delayed = new Delays(emptyPlan, emptyState);
        service = new Service(emptyPlan, emptyState);
        notes = new Notes(emptyPlan, emptyState);
        images = noImages;
    }

    // ---- the hotel

    public int feed(int letter) {
        if (letter < 0 || letter > 255) {
            return OUTSIDE;
        }
        return reader.append(letter) ? reader.letters : FULL;
    }

    public int hotel() {
        int kind = reader.readAll();
        if (kind != NO_FAULT) {
            return -10 - kind;
        }
        plan.become(reader.draft);
        now.open(plan);
        past.forget();
        notes.clear();
        for (int i = 0; i < images.length; i++) {
            images[i].kept = false;
        }
        return plan.waiters;
    }

    public int fault() {
        return reader.faultAt;
    }

    public int told(int what) {
        switch (what) {
            case 0: return plan.rooms;
            case 1: return plan.passages;
            case 2: return plan.waiters;
            case 3: return plan.things;
            case 4: return plan.orders;
            case 5: return reader.letters;
            case 6: return now.minutes;
            case 7: return now.meetings;
            case 8: return now.thingsAt(SPILT);
            case 9: return now.thingsAt(PANTRY);
            case 10: return plan.worthOf(now.thingsAt(SPILT));
            case 11: return notes.seen;
            case 12: return notes.written;
            case 13: return past.kept;
            default: return OUTSIDE;
        }
    }

    public int room(int r) {
        return plan.hasRoom(r) ? plan.joinedTo(r) : UNKNOWN;
    }

    public int waiter(int w, int what) {
        if (!plan.hasWaiter(w)) {
            return UNKNOWN;
        }
        switch (what) {
            case 0: return now.roomOf(w);
            case 1: return plan.carries[w];
            case 2: return now.thingsAt(sideOf(w, 0));
            case 3: return now.thingsAt(sideOf(w, 1));
            case 4: return plan.weightOf(now.thingsOf(w));
            case 5: return clock.slant(w);
            case 6: return stepsOf(now.routeOf(w));
            case 7: return now.treatiesOf(w);
            default: return OUTSIDE;
        }
    }

    public int thing(int t, int what) {
        if (!plan.hasThing(t)) {
            return UNKNOWN;
        }
        switch (what) {
            case 0: return plan.weights[t];
            case 1: return plan.worths[t];
            case 2: return now.bearerOf(t);
            default: return OUTSIDE;
        }
    }

    // ---- what is done

    public int minute(int n) {
        int refusal = refusalOfMinutes(n);
        if (refusal != 0) {
            return refusal;
        }
        past.remember(now);
        for (int k = 0; k < n; k++) {
            clock.tick();
        }
        return now.minutes;
    }

    public int route(int w, int rooms) {
        if (!plan.hasWaiter(w)) {
            return UNKNOWN;
        }
        if (rooms < 0 || rooms > LONGEST_ROUTE || !plan.hasAllRooms(rooms)) {
            return OUTSIDE;
        }
        int turned = turnedRound(rooms);
        if (!plan.canBeGone(now.roomOf(w), turned)) {
            return NOT;
        }
        past.remember(now);
        now.setRoute(w, turned);
        return stepsOf(turned);
    }

    public int lay(int t, int w, int side) {
        if (!plan.hasThing(t) || !plan.hasWaiter(w)) {
            return UNKNOWN;
        }
        if (side < 0 || side > 1) {
            return OUTSIDE;
        }
        int weight = plan.weightOf(now.thingsOf(w)) + plan.weights[t];
        if (!now.isAtHand(t, w) || weight > plan.carries[w]) {
            return NOT;
        }
        past.remember(now);
        now.put(t, sideOf(w, side));
        return weight;
    }

    public int takeOff(int t) {
        if (!plan.hasThing(t)) {
            return UNKNOWN;
        }
        int bearer = now.bearerOf(t);
        if (bearer == NONE) {
            return NOT;
        }
        past.remember(now);
        now.put(t, PANTRY);
        return bearer;
    }

    public int treaty(int w, int x, boolean is) {
        if (!plan.hasTwoWaiters(w, x)) {
            return UNKNOWN;
        }
        past.remember(now);
        int before = has(now.treatiesOf(w), x) ? 1 : 0;
        now.setTreaty(w, x, is);
        now.setTreaty(x, w, is);
        return before;
    }

    public int drift(int n) {
        int refusal = refusalOfMinutes(n);
        if (refusal != 0) {
            return refusal;
        }
        past.remember(now);
        for (int k = 0; k < n; k++) {
            clock.drawRoute();
            clock.tick();
        }
        return now.meetings;
    }

    public int undo() {
        return past.bringBack(now) ? past.kept : NOT;
    }

    // ---- tried

    public int where(int w, int n) {
        if (!plan.hasWaiter(w)) {
            return UNKNOWN;
        }
        return isForeseen(n, 0) ? now.roomAfter(w, n) : OUTSIDE;
    }

    public int meets(int w, int x) {
        return plan.hasTwoWaiters(w, x) ? delayed.firstMeeting(w, x) : UNKNOWN;
    }

    public int way(int a, int b, int what) {
        if (!plan.hasRoom(a) || !plan.hasRoom(b)) {
            return UNKNOWN;
        }
        switch (what) {
            case 0: return plan.distance(a, b);
            case 1: return plan.nextTowards(a, b);
            default: return OUTSIDE;
        }
    }

    public int delays(int w) {
        if (w != NONE && !plan.hasWaiter(w)) {
            return UNKNOWN;
        }
        delayed.seek();
        return delayed.answer(w);
    }

    public int served(int o) {
        if (o != NONE && !plan.hasOrder(o)) {
            return UNKNOWN;
        }
        service.seek();
        return service.answer(o);
    }

    public int evened(int w, int what) {
        if (!plan.hasWaiter(w)) {
            return UNKNOWN;
        }
        int tray = now.thingsOf(w);
        switch (what) {
            case 0: return plan.evenestLeft(tray);
            case 1: return plan.difference(tray, plan.evenestLeft(tray));
            default: return OUTSIDE;
        }
    }

    public int packed(int w, int what) {
        if (!plan.hasWaiter(w)) {
            return UNKNOWN;
        }
        int space = plan.carries[w] - plan.weightOf(now.thingsOf(w));
        int stock = now.thingsAt(PANTRY);
        switch (what) {
            case 0: return plan.worthiest(stock, space);
            case 1: return plan.worthOf(plan.worthiest(stock, space));
            default: return OUTSIDE;
        }
    }

    public int covered(int r, int n) {
        if (!plan.hasRoom(r)) {
            return UNKNOWN;
        }
        if (!isForeseen(n, 0)) {
            return OUTSIDE;
        }
        int reached = 1 << r;
        for (int k = 0; k < n; k++) {
            reached = plan.joinedToAny(reached);
        }
        return reached;
    }

    public int calm(int n, int q) {
        if (n < 0 || n > MOST_DAYS || q < 0 || q > 100) {
            return OUTSIDE;
        }
        long odds = BILLION;
        for (int day = 0; day < n; day++) {
            odds = odds * (100 - q) / 100;
        }
        return (int) odds;
    }

    // ---- what is seen

    public int see(int r, int n, boolean pink) {
        if (!plan.hasRoom(r)) {
            return UNKNOWN;
        }
        if (!isForeseen(n, 1)) {
            return OUTSIDE;
        }
        return notes.addSight(r, n, pink) ? notes.seen : FULL;
    }

    public int spiller() {
        return notes.suspects();
    }

    public int look() {
        return notes.bestRoom();
    }

    public int write(int w, int r) {
        if (!plan.hasWaiter(w) || !plan.hasRoom(r)) {
            return UNKNOWN;
        }
        return notes.addEntry(w, r) ? notes.written : FULL;
    }

    public int tear() {
        int had = notes.seen + notes.written;
        notes.clear();
        return had;
    }

    public int judge() {
        return notes.firstWrong();
    }

    // ---- draws, images

    public int seed(int v) {
        if (v < 0) {
            return OUTSIDE;
        }
        int before = clock.seedNow;
        clock.seedNow = v;
        return before;
    }

    public int keep(int i) {
        if (i < 0 || i >= images.length) {
            return UNKNOWN;
        }
        Image image = images[i];
        image.state.become(now);
        image.seedThen = clock.seedNow;
        image.kept = true;
        past.forget();
        return 1;
    }

    public int goBack(int i) {
        if (i < 0 || i >= images.length) {
            return UNKNOWN;
        }
        Image image = images[i];
        if (!image.kept) {
            return NOT;
        }
        now.become(image.state);
        clock.seedNow = image.seedThen;
        past.forget();
        return 1;
    }

    private int refusalOfMinutes(int n) {
        if (n < 1 || n > MOST_AT_ONCE) {
            return OUTSIDE;
        }
        if (plan.rooms == 0) {
            return NOT;
        }
        return now.minutes > LAST_MINUTE ? FULL : 0;
    }

    private static boolean isForeseen(int n, int least) {
        return n >= least && n <= FORESIGHT;
    }

    private static boolean has(int set, int k) {
        return (set >> k & 1) == 1;
    }

    private static int sideOf(int w, int side) {
        return 2 * w + side;
    }

    private static int stepsOf(int route) {
        int steps = 0;
        for (int rest = route; rest > 0 && steps < MOST_STEPS; rest /= 10) {
            steps++;
        }
        return steps;
    }

    // A route is kept with its next room as the last figure, so that a step is a division by ten.
    private static int turnedRound(int rooms) {
        int turned = 0;
        int rest = rooms;
        for (int k = 0; k < MOST_STEPS && rest > 0; k++) {
            turned = turned * 10 + rest % 10;
            rest /= 10;
        }
        return turned;
    }

    // Fills row with the figures of code, the first of them counting most: codes that rise then
    // go through all rows in the order in which "the first of like ones" is meant.
    private static void spell(int code, int base, int[] row, int count) {
        int rest = code;
        for (int k = Math.min(count, row.length) - 1; k >= 0; k--) {
            row[k] = base > 0 ? rest % base : 0;
            rest = base > 0 ? rest / base : 0;
        }
    }

    private static int power(int base, int count) {
        int product = 1;
        for (int k = 0; k < count; k++) {
            product *= base;
        }
        return product;
    }

    /** The hotel as its text tells it. */
    private static final class Plan {
        int rooms;
        int slack;
        int passages;
        int waiters;
        int things;
        int orders;
        final int[] joined = new int[MOST_ROOMS];
        final int[] starts = new int[MOST_WAITERS];
        final int[] carries = new int[MOST_WAITERS];
        final int[] weights = new int[MOST_THINGS];
        final int[] worths = new int[MOST_THINGS];
        final int[] orderRooms = new int[MOST_ORDERS];
        final int[] orderMinutes = new int[MOST_ORDERS];

        void clear() {
            rooms = 0;
            slack = 0;
            passages = 0;
            waiters = 0;
            things = 0;
            orders = 0;
            for (int r = 0; r < MOST_ROOMS; r++) {
                joined[r] = 0;
            }
        }

        void become(Plan other) {
            rooms = other.rooms;
            slack = other.slack;
            passages = other.passages;
            waiters = other.waiters;
            things = other.things;
            orders = other.orders;
            System.arraycopy(other.joined, 0, joined, 0, MOST_ROOMS);
            System.arraycopy(other.starts, 0, starts, 0, MOST_WAITERS);
            System.arraycopy(other.carries, 0, carries, 0, MOST_WAITERS);
            System.arraycopy(other.weights, 0, weights, 0, MOST_THINGS);
            System.arraycopy(other.worths, 0, worths, 0, MOST_THINGS);
            System.arraycopy(other.orderRooms, 0, orderRooms, 0, MOST_ORDERS);
            System.arraycopy(other.orderMinutes, 0, orderMinutes, 0, MOST_ORDERS);
        }

        boolean hasRoom(int r) {
            return r >= 0 && r < rooms && r < MOST_ROOMS;
        }

        boolean hasWaiter(int w) {
            return w >= 0 && w < waiters && w < MOST_WAITERS;
        }

        boolean hasTwoWaiters(int w, int x) {
            return hasWaiter(w) && hasWaiter(x) && w != x;
        }

        boolean hasThing(int t) {
            return t >= 0 && t < things && t < MOST_THINGS;
        }

        boolean hasOrder(int o) {
            return o >= 0 && o < orders && o < MOST_ORDERS;
        }

        boolean isFull(int word) {
            switch (word) {
                case 'p': return passages >= MOST_PASSAGES;
                case 'w': return waiters >= MOST_WAITERS;
                case 't': return things >= MOST_THINGS;
                case 'o': return orders >= MOST_ORDERS;
                default: return rooms > 0;
            }
        }

        void add(int word, int first, int second) {
            if (isFull(word)) {
                return;
            }
            switch (word) {
                case 'p':
                    join(first, second);
                    join(second, first);
                    passages++;
                    break;
                case 'w':
                    starts[waiters] = first;
                    carries[waiters] = second;
                    waiters++;
                    break;
                case 't':
                    weights[things] = first;
                    worths[things] = second;
                    things++;
                    break;
                case 'o':
                    orderRooms[orders] = first;
                    orderMinutes[orders] = second;
                    orders++;
                    break;
                default:
                    rooms = first;
                    slack = second;
                    break;
            }
        }

        void join(int a, int b) {
            if (hasRoom(a)) {
                joined[a] |= 1 << b;
            }
        }

        int joinedTo(int r) {
            return hasRoom(r) ? joined[r] : 0;
        }

        int joinedToAny(int set) {
            int reached = 0;
            for (int r = 0; r < MOST_ROOMS; r++) {
                if (has(set, r)) {
                    reached |= joined[r];
                }
            }
            return reached;
        }

        boolean hasAllRooms(int figures) {
            int rest = figures;
            for (int k = 0; k < MOST_STEPS && rest > 0; k++) {
                if (!hasRoom(rest % 10 - 1)) {
                    return false;
                }
                rest /= 10;
            }
            return true;
        }

        boolean canBeGone(int from, int turned) {
            int here = from;
            int rest = turned;
            for (int k = 0; k < MOST_STEPS && rest > 0; k++) {
                int next = rest % 10 - 1;
                if (!has(joinedTo(here), next)) {
                    return false;
                }
                here = next;
                rest /= 10;
            }
            return true;
        }

        int distance(int a, int b) {
            int reached = 1 << a;
            for (int steps = 0; steps < MOST_ROOMS; steps++) {
                if (has(reached, b)) {
                    return steps;
                }
                reached |= joinedToAny(reached);
            }
            return NONE;
        }

        int nextTowards(int a, int b) {
            int steps = distance(a, b);
            if (steps <= 0) {
                return NONE;
            }
            for (int r = 0; r < rooms; r++) {
                if (has(joinedTo(a), r) && distance(r, b) == steps - 1) {
                    return r;
                }
            }
            return NONE;
        }

        int weightOf(int set) {
            return sumOf(weights, set);
        }

        int worthOf(int set) {
            return sumOf(worths, set);
        }

        static int sumOf(int[] amounts, int set) {
            int sum = 0;
            for (int t = 0; t < amounts.length; t++) {
                if (has(set, t)) {
                    sum += amounts[t];
                }
            }
            return sum;
        }

        int heaviestOf(int set) {
            int heaviest = NONE;
            int most = 0;
            for (int t = 0; t < MOST_THINGS; t++) {
                if (has(set, t) && weights[t] > most) {
                    heaviest = t;
                    most = weights[t];
                }
            }
            return heaviest;
        }

        int difference(int tray, int left) {
            return Math.abs(weightOf(left) - weightOf(tray & ~left));
        }

        int evenestLeft(int tray) {
            int best = 0;
            int least = weightOf(tray);
            for (int left = 1; left < 1 << MOST_THINGS; left++) {
                int apart = (left & ~tray) == 0 ? difference(tray, left) : least;
                if (apart < least) {
                    best = left;
                    least = apart;
                }
            }
            return best;
        }

        int worthiest(int stock, int space) {
            int best = 0;
            int most = 0;
            for (int set = 1; set < 1 << MOST_THINGS; set++) {
                int worth = (set & ~stock) == 0 ? worthOf(set) : 0;
                if (worth > most && weightOf(set) <= space) {
                    best = set;
                    most = worth;
                }
            }
            return best;
        }
    }

    /** The text, and how it is read into a draft of the plan up to its first fault. */
    private static final class Reader {
        final Plan draft = new Plan();
        final char[] text = new char[MOST_LETTERS];
        int letters;
        int faultAt = NONE;
        int faultKind;
        int spot;
        int numberAt;

        boolean append(int letter) {
            if (letters >= MOST_LETTERS) {
                return false;
            }
            text[letters] = (char) letter;
            letters++;
            return true;
        }

        int readAll() {
            draft.clear();
            faultKind = NO_FAULT;
            faultAt = NONE;
            spot = 0;
            skipBlanks();
            for (int k = 0; k < MOST_LETTERS && spot < letters && faultKind == NO_FAULT; k++) {
                readClause();
                skipBlanks();
            }
            letters = 0;
            return faultKind;
        }

        void readClause() {
            int word = letterAt(spot);
            int kind = faultOfWord(word);
            if (kind != NO_FAULT) {
                blame(kind, spot);
                return;
            }
            spot++;
            int first = readNumber(firstLeast(word), firstMost(word));
            int second = faultKind == NO_FAULT ? readNumber(secondLeast(word), secondMost(word)) : 0;
            if (faultKind == NO_FAULT && word == 'p' && (first == second || has(draft.joinedTo(first), second))) {
                blame(SAME_PASSAGE, numberAt);
            }
            if (faultKind == NO_FAULT) {
                readEnd();
            }
            if (faultKind == NO_FAULT) {
                draft.add(word, first, second);
            }
        }

        int faultOfWord(int word) {
            boolean isWord = word == 'h' || word == 'p' || word == 'w' || word == 't' || word == 'o';
            if (!isWord || draft.rooms == 0 && word != 'h') {
                return MISPLACED;
            }
            return draft.isFull(word) ? TOO_MANY : NO_FAULT;
        }

        int readNumber(int least, int most) {
            skipBlanks();
            numberAt = spot;
            int value = 0;
            for (int k = 0; k < MOST_LETTERS && isFigure(letterAt(spot)); k++) {
                // A longer number is a fault whatever it is worth, and must not run over.
                value = k < MOST_FIGURES ? value * 10 + letterAt(spot) - '0' : value;
                spot++;
            }
            if (spot == numberAt) {
                blame(MISPLACED, spot);
            } else if (spot - numberAt > MOST_FIGURES || value < least || value > most) {
                blame(OUT_OF_BOUNDS, numberAt);
            }
            return value;
        }

        void readEnd() {
            skipBlanks();
            if (letterAt(spot) == ';') {
                spot++;
            } else {
                blame(MISPLACED, spot);
            }
        }

        void skipBlanks() {
            for (int k = 0; k < MOST_LETTERS && letterAt(spot) == ' '; k++) {
                spot++;
            }
        }

        int letterAt(int i) {
            return i >= 0 && i < letters && i < MOST_LETTERS ? text[i] : NONE;
        }

        void blame(int kind, int at) {
            faultKind = kind;
            faultAt = at;
        }

        int firstLeast(int word) {
            return word == 'h' || word == 't' ? 1 : 0;
        }

        int firstMost(int word) {
            switch (word) {
                case 'h': return MOST_ROOMS;
                case 't': return MOST_TOLD;
                default: return draft.rooms - 1;
            }
        }

        int secondLeast(int word) {
            return word == 'w' ? 1 : 0;
        }

        int secondMost(int word) {
            switch (word) {
                case 'p': return draft.rooms - 1;
                case 'w': return MOST_CARRIED;
                default: return MOST_TOLD;
            }
        }

        static boolean isFigure(int letter) {
            return letter >= '0' && letter <= '9';
        }
    }

    /** What changes as minutes pass: all that undo() and the images bring back. */
    private static final class State {
        int minutes;
        int meetings;
        final int[] at = new int[MOST_WAITERS];
        final int[] routes = new int[MOST_WAITERS];
        final int[] treaties = new int[MOST_WAITERS];
        final int[] places = new int[MOST_THINGS];

        State() {
            for (int t = 0; t < MOST_THINGS; t++) {
                places[t] = ABSENT;
            }
        }

        void become(State other) {
            minutes = other.minutes;
            meetings = other.meetings;
            System.arraycopy(other.at, 0, at, 0, MOST_WAITERS);
            System.arraycopy(other.routes, 0, routes, 0, MOST_WAITERS);
            System.arraycopy(other.treaties, 0, treaties, 0, MOST_WAITERS);
            System.arraycopy(other.places, 0, places, 0, MOST_THINGS);
        }

        void open(Plan plan) {
            minutes = 0;
            meetings = 0;
            for (int w = 0; w < MOST_WAITERS; w++) {
                at[w] = plan.starts[w];
                routes[w] = 0;
                treaties[w] = 0;
            }
            for (int t = 0; t < MOST_THINGS; t++) {
                places[t] = t < plan.things ? PANTRY : ABSENT;
            }
        }

        static boolean isSeat(int w) {
            return w >= 0 && w < MOST_WAITERS;
        }

        int roomOf(int w) {
            return isSeat(w) ? at[w] : NONE;
        }

        int routeOf(int w) {
            return isSeat(w) ? routes[w] : 0;
        }

        int treatiesOf(int w) {
            return isSeat(w) ? treaties[w] : 0;
        }

        int placeOf(int t) {
            return t >= 0 && t < MOST_THINGS ? places[t] : ABSENT;
        }

        int bearerOf(int t) {
            int place = placeOf(t);
            return place < 0 ? NONE : place / 2;
        }

        int thingsAt(int place) {
            int set = 0;
            for (int t = 0; t < MOST_THINGS; t++) {
                if (places[t] == place) {
                    set |= 1 << t;
                }
            }
            return set;
        }

        int thingsOf(int w) {
            return thingsAt(sideOf(w, 0)) | thingsAt(sideOf(w, 1));
        }

        boolean isAtHand(int t, int w) {
            int bearer = bearerOf(t);
            if (bearer == NONE) {
                return placeOf(t) == PANTRY;
            }
            return bearer != w && roomOf(bearer) == roomOf(w);
        }

        void put(int t, int place) {
            if (t >= 0 && t < MOST_THINGS) {
                places[t] = place;
            }
        }

        void setRoute(int w, int turned) {
            if (isSeat(w)) {
                routes[w] = turned;
            }
        }

        void setTreaty(int w, int x, boolean is) {
            if (isSeat(w) && isSeat(x)) {
                treaties[w] = is ? treaties[w] | 1 << x : treaties[w] & ~(1 << x);
            }
        }

        void step(int w) {
            if (isSeat(w) && routes[w] > 0) {
                at[w] = routes[w] % 10 - 1;
                routes[w] /= 10;
            }
        }

        int roomAfter(int w, int n) {
            int here = roomOf(w);
            int rest = routeOf(w);
            for (int k = 0; k < n && rest > 0; k++) {
                here = rest % 10 - 1;
                rest /= 10;
            }
            return here;
        }

        int roomsCameTo(int w, int n) {
            int set = 0;
            int rest = routeOf(w);
            for (int k = 0; k < n && rest > 0; k++) {
                set |= 1 << rest % 10 - 1;
                rest /= 10;
            }
            return set;
        }
    }

    /** The states ahead of the latest changes, in a ring so that the oldest is the one lost. */
    private static final class Past {
        final State[] states = new State[MOST_UNDONE];
        int next;
        int kept;

        Past() {
            for (int i = 0; i < MOST_UNDONE; i++) {
                states[i] = new State();
            }
        }

        void forget() {
            kept = 0;
        }

        void remember(State state) {
            if (next < 0 || next >= MOST_UNDONE) {
                return;
            }
            states[next].become(state);
            next = (next + 1) % MOST_UNDONE;
            kept = Math.min(kept + 1, MOST_UNDONE);
        }

        boolean bringBack(State state) {
            int latest = (next + MOST_UNDONE - 1) % MOST_UNDONE;
            if (kept == 0 || latest < 0) {
                return false;
            }
            state.become(states[latest]);
            next = latest;
            kept--;
            return true;
        }
    }

    /** What keep() holds for goBack(). */
    private static final class Image {
        final State state = new State();
        int seedThen;
        boolean kept;
    }

    /** Minutes that pass, with their meetings and spills, and the draws. */
    private static final class Clock {
        final Plan plan;
        final State now;
        final int[] before = new int[MOST_WAITERS];
        int seedNow;

        Clock(Plan plan, State now) {
            this.plan = plan;
            this.now = now;
        }

        int slant(int w) {
            return plan.difference(now.thingsOf(w), now.thingsAt(sideOf(w, 0)));
        }

        void tick() {
            for (int w = 0; w < MOST_WAITERS; w++) {
                before[w] = now.at[w];
                now.step(w);
            }
            int shaken = countMeetings();
            // Going changes no tray and each spills from his own, so they still lie here as ahead.
            for (int w = 0; w < plan.waiters; w++) {
                if (has(shaken, w) && slant(w) > plan.slack) {
                    now.put(plan.heaviestOf(now.thingsOf(w)), SPILT);
                }
            }
            now.minutes++;
        }

        // Answers who met somebody without a treaty.
        int countMeetings() {
            int set = 0;
            for (int w = 0; w < plan.waiters; w++) {
                for (int x = w + 1; x < plan.waiters; x++) {
                    if (!haveMet(w, x)) {
                        continue;
                    }
                    now.meetings++;
                    if (!has(now.treatiesOf(w), x)) {
                        set |= 1 << w | 1 << x;
                    }
                }
            }
            return set;
        }

        boolean haveMet(int w, int x) {
            if (!plan.hasTwoWaiters(w, x)) {
                return false;
            }
            return meetBetween(before[w], now.at[w], before[x], now.at[x]);
        }

        // Whoever goes changes his room, since no passage leads back to where it begins.
        static boolean meetBetween(int fromW, int toW, int fromX, int toX) {
            boolean oneWent = fromW != toW || fromX != toX;
            return oneWent && (toW == toX || toW == fromX && toX == fromW);
        }

        void drawRoute() {
            if (plan.waiters == 0) {
                return;
            }
            int w = draw(plan.waiters);
            int doors = plan.joinedTo(now.roomOf(w));
            if (now.routeOf(w) == 0 && doors != 0) {
                now.setRoute(w, memberOf(doors, draw(Integer.bitCount(doors))) + 1);
            }
        }

        int draw(int n) {
            seedNow = (int) ((seedNow * 1103515245L + 12345L) % 2147483648L);
            return n > 0 ? seedNow / 65536 % n : 0;
        }

        static int memberOf(int set, int k) {
            int ahead = k;
            for (int r = 0; r < MOST_ROOMS; r++) {
                if (has(set, r)) {
                    if (ahead == 0) {
                        return r;
                    }
                    ahead--;
                }
            }
            return NONE;
        }
    }

    /** Meetings to come, and the delays by which there are none. */
    private static final class Delays {
        final Plan plan;
        final State now;
        final int[] tracks = new int[MOST_WAITERS * (FORESIGHT + 1)];
        final int[] steps = new int[MOST_WAITERS];
        final int[] clashes = new int[MOST_WAITERS * MOST_WAITERS];
        final int[] waits = new int[MOST_WAITERS];
        final int[] best = new int[MOST_WAITERS];
        int soonest;

        Delays(Plan plan, State now) {
            this.plan = plan;
            this.now = now;
        }

        int firstMeeting(int w, int x) {
            layTracks();
            return meetingOf(w, 0, x, 0);
        }

        int answer(int w) {
            if (w == NONE || soonest == NONE) {
                return soonest;
            }
            return plan.hasWaiter(w) ? best[w] : UNKNOWN;
        }

        void seek() {
            layTracks();
            markClashes();
            soonest = NONE;
            int rows = power(WAITS, plan.waiters);
            for (int code = 0; code < rows; code++) {
                spell(code, WAITS, waits, plan.waiters);
                int end = endOfAll();
                if ((soonest == NONE || end < soonest) && !haveClash()) {
                    soonest = end;
                    System.arraycopy(waits, 0, best, 0, MOST_WAITERS);
                }
            }
        }

        void layTracks() {
            for (int w = 0; w < MOST_WAITERS; w++) {
                steps[w] = stepsOf(now.routeOf(w));
                for (int n = 0; n <= FORESIGHT; n++) {
                    tracks[w * (FORESIGHT + 1) + n] = now.roomAfter(w, n);
                }
            }
        }

        int trackAt(int w, int n) {
            if (!plan.hasWaiter(w) || n > FORESIGHT) {
                return NONE;
            }
            return tracks[w * (FORESIGHT + 1) + Math.max(n, 0)];
        }

        int meetingOf(int w, int waitW, int x, int waitX) {
            for (int n = 1; n <= FORESIGHT; n++) {
                int fromW = trackAt(w, n - 1 - waitW);
                int fromX = trackAt(x, n - 1 - waitX);
                if (Clock.meetBetween(fromW, trackAt(w, n - waitW), fromX, trackAt(x, n - waitX))) {
                    return n;
                }
            }
            return NONE;
        }

        void markClashes() {
            for (int w = 0; w < plan.waiters; w++) {
                for (int x = w + 1; x < plan.waiters; x++) {
                    setClashes(w, x);
                }
            }
        }

        // While both wait nothing happens, and all routes are gone within the foresight however
        // long one waits: so two delays clash by their difference alone.
        void setClashes(int w, int x) {
            int set = 0;
            for (int later = 1 - WAITS; later < WAITS; later++) {
                if (meetingOf(w, Math.max(later, 0), x, Math.max(-later, 0)) != NONE) {
                    set |= 1 << later + WAITS;
                }
            }
            if (plan.hasTwoWaiters(w, x)) {
                clashes[w * MOST_WAITERS + x] = set;
            }
        }

        boolean haveClash() {
            for (int w = 0; w < plan.waiters; w++) {
                for (int x = w + 1; x < plan.waiters && x < MOST_WAITERS; x++) {
                    if (has(clashes[w * MOST_WAITERS + x], waits[w] - waits[x] + WAITS)) {
                        return true;
                    }
                }
            }
            return false;
        }

        int endOfAll() {
            int end = 0;
            for (int w = 0; w < plan.waiters && w < MOST_WAITERS; w++) {
                if (steps[w] > 0) {
                    end = Math.max(end, waits[w] + steps[w]);
                }
            }
            return end;
        }
    }

    /** Which waiter takes which order. */
    private static final class Service {
        final Plan plan;
        final State now;
        final int[] inTime = new int[MOST_ORDERS];
        final int[] takers = new int[MOST_ORDERS];
        final int[] best = new int[MOST_ORDERS];
        int most;

        Service(Plan plan, State now) {
            this.plan = plan;
            this.now = now;
        }

        int answer(int o) {
            if (o == NONE) {
                return most;
            }
            if (!plan.hasOrder(o)) {
                return UNKNOWN;
            }
            return plan.hasWaiter(best[o]) ? best[o] : NONE;
        }

        void seek() {
            markInTime();
            most = NONE;
            int base = plan.waiters + 1;
            int rows = power(base, plan.orders);
            for (int code = 0; code < rows; code++) {
                spell(code, base, takers, plan.orders);
                int count = ordersTaken();
                if (count > most) {
                    most = count;
                    System.arraycopy(takers, 0, best, 0, MOST_ORDERS);
                }
            }
        }

        void markInTime() {
            for (int o = 0; o < plan.orders && o < MOST_ORDERS; o++) {
                inTime[o] = 0;
                for (int w = 0; w < plan.waiters; w++) {
                    int steps = plan.distance(now.roomOf(w), plan.orderRooms[o]);
                    if (steps != NONE && now.minutes + steps <= plan.orderMinutes[o]) {
                        inTime[o] |= 1 << w;
                    }
                }
            }
        }

        // NONE: a waiter takes two, or one that he is late for. The number behind the last
        // waiter's is nobody.
        int ordersTaken() {
            int busy = 0;
            int count = 0;
            for (int o = 0; o < plan.orders && o < MOST_ORDERS; o++) {
                int w = takers[o];
                if (w == plan.waiters) {
                    continue;
                }
                if (has(busy, w) || !has(inTime[o], w)) {
                    return NONE;
                }
                busy |= 1 << w;
                count++;
            }
            return count;
        }
    }

    /** What was seen of spills, and the book of where waiters are. */
    private static final class Notes {
        final Plan plan;
        final State now;
        final int[] seenRooms = new int[MOST_SEEN];
        final int[] seenMinutes = new int[MOST_SEEN];
        final boolean[] seenPink = new boolean[MOST_SEEN];
        final int[] bookWaiters = new int[MOST_WRITTEN];
        final int[] bookRooms = new int[MOST_WRITTEN];
        int seen;
        int written;

        Notes(Plan plan, State now) {
            this.plan = plan;
            this.now = now;
        }

        void clear() {
            seen = 0;
            written = 0;
        }

        boolean addSight(int r, int n, boolean pink) {
            if (seen >= MOST_SEEN) {
                return false;
            }
            seenRooms[seen] = r;
            seenMinutes[seen] = n;
            seenPink[seen] = pink;
            seen++;
            return true;
        }

        boolean addEntry(int w, int r) {
            if (written >= MOST_WRITTEN) {
                return false;
            }
            bookWaiters[written] = w;
            bookRooms[written] = r;
            written++;
            return true;
        }

        int suspects() {
            int set = 0;
            for (int w = 0; w < plan.waiters; w++) {
                if (fitsAllSeen(w)) {
                    set |= 1 << w;
                }
            }
            return set;
        }

        boolean fitsAllSeen(int w) {
            for (int i = 0; i < seen && i < MOST_SEEN; i++) {
                if (has(now.roomsCameTo(w, seenMinutes[i]), seenRooms[i]) != seenPink[i]) {
                    return false;
                }
            }
            return true;
        }

        int bestRoom() {
            int set = suspects();
            int all = Integer.bitCount(set);
            int best = NONE;
            int least = all;
            for (int r = 0; r < plan.rooms; r++) {
                int pink = countComingTo(r, set);
                int part = Math.max(pink, all - pink);
                if (part < least) {
                    best = r;
                    least = part;
                }
            }
            return best;
        }

        int countComingTo(int r, int set) {
            int count = 0;
            for (int w = 0; w < plan.waiters; w++) {
                if (has(set, w) && has(now.roomsCameTo(w, FORESIGHT), r)) {
                    count++;
                }
            }
            return count;
        }

        int firstWrong() {
            for (int i = 0; i < written && i < MOST_WRITTEN; i++) {
                if (now.roomOf(bookWaiters[i]) != bookRooms[i]) {
                    return i;
                }
            }
            return NONE;
        }
    }
}
