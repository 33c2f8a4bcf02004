import java.util.ArrayDeque;
import java.util.ArrayList;
import java.util.Arrays;
import java.util.Deque;
import java.util.HashMap;
import java.util.HashSet;
import java.util.List;
import java.util.Map;
import java.util.Set;
import java.util.TreeSet;

/** The document a second time, as plainly as the Java library allows; slow, and no part of the program. */
final class HotelModel {
    static final int NONE = -1, UNKNOWN = -1000000001, OUTSIDE = -1000000002, NOT = -1000000003, FULL = -1000000004;

    static final class Fault extends RuntimeException {
        private static final long serialVersionUID = 1L;
        final int kind;
        final int at;

        Fault(int kind, int at) {
            this.kind = kind;
            this.at = at;
        }
    }

    record Waiter(int room, int carries) { }

    record Thing(int weight, int worth) { }

    record Order(int room, int minute) { }

    record Sight(int room, int minutes, boolean pink) { }

    record Entry(int waiter, int room) { }

    static final class Hotel {
        int rooms;
        int even;
        final Set<Set<Integer>> passages = new HashSet<>();
        final List<Waiter> waiters = new ArrayList<>();
        final List<Thing> things = new ArrayList<>();
        final List<Order> orders = new ArrayList<>();

        TreeSet<Integer> neighbours(int room) {
            TreeSet<Integer> all = new TreeSet<>();
            for (int other = 0; other < rooms; other++) {
                if (other != room && passages.contains(Set.of(room, other))) {
                    all.add(other);
                }
            }
            return all;
        }
    }

    static final class World {
        int minutes;
        int meetings;
        List<Integer> rooms = new ArrayList<>();
        List<List<Integer>> routes = new ArrayList<>();
        List<List<Integer>> left = new ArrayList<>();
        List<List<Integer>> right = new ArrayList<>();
        Set<Integer> pantry = new TreeSet<>();
        Set<Integer> spilt = new TreeSet<>();
        Set<Set<Integer>> treaties = new HashSet<>();

        World copy() {
            World w = new World();
            w.minutes = minutes;
            w.meetings = meetings;
            w.rooms.addAll(rooms);
            routes.forEach(r -> w.routes.add(new ArrayList<>(r)));
            left.forEach(r -> w.left.add(new ArrayList<>(r)));
            right.forEach(r -> w.right.add(new ArrayList<>(r)));
            w.pantry.addAll(pantry);
            w.spilt.addAll(spilt);
            w.treaties.addAll(treaties);
            return w;
        }
    }

    String text = "";
    Hotel hotel = new Hotel();
    World world = new World();
    int faultAt = NONE;
    long seed;
    final Deque<World> past = new ArrayDeque<>();
    final Map<Integer, World> images = new HashMap<>();
    final Map<Integer, Long> imageSeeds = new HashMap<>();
    final List<Sight> sights = new ArrayList<>();
    final List<Entry> book = new ArrayList<>();

    // ---- the text

    record Token(char kind, int at, String letters) { }

    static List<Token> tokens(String text) {
        List<Token> all = new ArrayList<>();
        int i = 0;
        while (i < text.length()) {
            char c = text.charAt(i);
            if (c == ' ') {
                i++;
            } else if (c >= '0' && c <= '9') {
                int from = i;
                while (i < text.length() && text.charAt(i) >= '0' && text.charAt(i) <= '9') {
                    i++;
                }
                all.add(new Token('#', from, text.substring(from, i)));
            } else {
                all.add(new Token(c, i, ""));
                i++;
            }
        }
        all.add(new Token('$', text.length(), ""));
        // A real dollar sign must not be taken for the end.
        for (int k = 0; k + 1 < all.size(); k++) {
            if (all.get(k).kind == '$') {
                all.set(k, new Token('?', all.get(k).at, ""));
            }
        }
        return all;
    }

    static int number(Token token, int least, int most) {
        if (token.kind != '#') {
            throw new Fault(1, token.at);
        }
        if (token.letters.length() > 3) {
            throw new Fault(2, token.at);
        }
        int value = Integer.parseInt(token.letters);
        if (value < least || value > most) {
            throw new Fault(2, token.at);
        }
        return value;
    }

    static Hotel parse(String text) {
        Hotel h = new Hotel();
        List<Token> all = tokens(text);
        if (all.size() == 1) {
            return h;
        }
        boolean begun = false;
        int i = 0;
        while (all.get(i).kind != '$') {
            Token word = all.get(i);
            if ("hpwto".indexOf(word.kind) < 0 || (!begun && word.kind != 'h')) {
                throw new Fault(1, word.at);
            }
            int had = switch (word.kind) {
                case 'h' -> begun ? 99 : 0;
                case 'p' -> h.passages.size() == 12 ? 99 : 0;
                case 'w' -> h.waiters.size() == 4 ? 99 : 0;
                case 't' -> h.things.size() == 8 ? 99 : 0;
                default -> h.orders.size() == 4 ? 99 : 0;
            };
            if (had == 99) {
                throw new Fault(3, word.at);
            }
            Token a = all.get(i + 1);
            int room = h.rooms - 1;
            int first = switch (word.kind) {
                case 'h' -> number(a, 1, 8);
                case 't' -> number(a, 1, 99);
                default -> number(a, 0, room);
            };
            Token b = all.get(i + 2);
            int second = switch (word.kind) {
                case 'p' -> number(b, 0, room);
                case 'w' -> number(b, 1, 999);
                default -> number(b, 0, 99);
            };
            if (word.kind == 'p' && (first == second || h.passages.contains(Set.of(first, second)))) {
                throw new Fault(4, b.at);
            }
            if (all.get(i + 3).kind != ';') {
                throw new Fault(1, all.get(i + 3).at);
            }
            switch (word.kind) {
                case 'h' -> {
                    h.rooms = first;
                    h.even = second;
                    begun = true;
                }
                case 'p' -> h.passages.add(Set.of(first, second));
                case 'w' -> h.waiters.add(new Waiter(first, second));
                case 't' -> h.things.add(new Thing(first, second));
                default -> h.orders.add(new Order(first, second));
            }
            i += 4;
        }
        return h;
    }

    int feed(int letter) {
        if (letter < 0 || letter > 255) {
            return OUTSIDE;
        }
        if (text.length() == 240) {
            return FULL;
        }
        text += (char) letter;
        return text.length();
    }

    int hotel() {
        String whole = text;
        text = "";
        try {
            hotel = parse(whole);
        } catch (Fault f) {
            faultAt = f.at;
            return -10 - f.kind;
        }
        faultAt = NONE;
        world = new World();
        for (Waiter w : hotel.waiters) {
            world.rooms.add(w.room);
            world.routes.add(new ArrayList<>());
            world.left.add(new ArrayList<>());
            world.right.add(new ArrayList<>());
        }
        for (int t = 0; t < hotel.things.size(); t++) {
            world.pantry.add(t);
        }
        past.clear();
        images.clear();
        imageSeeds.clear();
        sights.clear();
        book.clear();
        return hotel.waiters.size();
    }

    int fault() {
        return faultAt;
    }

    // ---- reading

    static int set(Iterable<Integer> members) {
        int set = 0;
        for (int m : members) {
            set |= 1 << m;
        }
        return set;
    }

    int weight(Iterable<Integer> things) {
        int sum = 0;
        for (int t : things) {
            sum += hotel.things.get(t).weight;
        }
        return sum;
    }

    int worth(Iterable<Integer> things) {
        int sum = 0;
        for (int t : things) {
            sum += hotel.things.get(t).worth;
        }
        return sum;
    }

    boolean noRoom(int r) {
        return r < 0 || r >= hotel.rooms;
    }

    boolean noWaiter(int w) {
        return w < 0 || w >= hotel.waiters.size();
    }

    boolean noThing(int t) {
        return t < 0 || t >= hotel.things.size();
    }

    List<Integer> tray(int w) {
        List<Integer> all = new ArrayList<>(world.left.get(w));
        all.addAll(world.right.get(w));
        return all;
    }

    int told(int what) {
        if (what < 0 || what > 13) {
            return OUTSIDE;
        }
        return List.of(hotel.rooms, hotel.passages.size(), hotel.waiters.size(), hotel.things.size(),
            hotel.orders.size(), text.length(), world.minutes, world.meetings, set(world.spilt),
            set(world.pantry), worth(world.spilt), sights.size(), book.size(), past.size()).get(what);
    }

    int room(int r) {
        return noRoom(r) ? UNKNOWN : set(hotel.neighbours(r));
    }

    int differ(int w) {
        return Math.abs(weight(world.left.get(w)) - weight(world.right.get(w)));
    }

    int waiter(int w, int what) {
        if (noWaiter(w)) {
            return UNKNOWN;
        }
        if (what < 0 || what > 7) {
            return OUTSIDE;
        }
        Set<Integer> friends = new TreeSet<>();
        for (int x = 0; x < hotel.waiters.size(); x++) {
            if (x != w && world.treaties.contains(Set.of(w, x))) {
                friends.add(x);
            }
        }
        return List.of(world.rooms.get(w), hotel.waiters.get(w).carries, set(world.left.get(w)),
            set(world.right.get(w)), weight(tray(w)), differ(w), world.routes.get(w).size(), set(friends)).get(what);
    }

    int bearer(int t) {
        for (int w = 0; w < hotel.waiters.size(); w++) {
            if (tray(w).contains(t)) {
                return w;
            }
        }
        return NONE;
    }

    int thing(int t, int what) {
        if (noThing(t)) {
            return UNKNOWN;
        }
        return what == 0 ? hotel.things.get(t).weight : what == 1 ? hotel.things.get(t).worth
            : what == 2 ? bearer(t) : OUTSIDE;
    }

    // ---- doing

    void remember() {
        past.addLast(world.copy());
        if (past.size() > 20) {
            past.removeFirst();
        }
    }

    void pass() {
        int count = hotel.waiters.size();
        List<Integer> from = new ArrayList<>(world.rooms);
        Set<Integer> went = new HashSet<>();
        Set<Integer> wobbly = new HashSet<>();
        for (int w = 0; w < count; w++) {
            if (differ(w) > hotel.even) {
                wobbly.add(w);
            }
            if (!world.routes.get(w).isEmpty()) {
                world.rooms.set(w, world.routes.get(w).remove(0));
                went.add(w);
            }
        }
        Set<Integer> hurt = new TreeSet<>();
        for (int w = 0; w < count; w++) {
            for (int x = 0; x < w; x++) {
                boolean together = world.rooms.get(w).equals(world.rooms.get(x));
                boolean swapped = went.contains(w) && went.contains(x) && world.rooms.get(w).equals(from.get(x))
                    && world.rooms.get(x).equals(from.get(w));
                if ((went.contains(w) || went.contains(x)) && (together || swapped)) {
                    world.meetings++;
                    if (!world.treaties.contains(Set.of(w, x))) {
                        hurt.add(w);
                        hurt.add(x);
                    }
                }
            }
        }
        hurt.retainAll(wobbly);
        for (int w : hurt) {
            Integer worst = tray(w).stream().min((s, t) -> {
                int g = hotel.things.get(t).weight - hotel.things.get(s).weight;
                return g != 0 ? g : s - t;
            }).orElseThrow();
            world.left.get(w).remove(worst);
            world.right.get(w).remove(worst);
            world.spilt.add(worst);
        }
        world.minutes++;
    }

    int refuse(int n) {
        return n < 1 || n > 60 ? OUTSIDE : hotel.rooms == 0 ? NOT : world.minutes > 9000 ? FULL : 0;
    }

    int minute(int n) {
        if (refuse(n) != 0) {
            return refuse(n);
        }
        remember();
        for (int k = 0; k < n; k++) {
            pass();
        }
        return world.minutes;
    }

    int route(int w, int rooms) {
        if (noWaiter(w)) {
            return UNKNOWN;
        }
        List<Integer> route = new ArrayList<>();
        String figures = rooms == 0 ? "" : Integer.toString(rooms);
        if (rooms < 0 || figures.length() > 9) {
            return OUTSIDE;
        }
        for (char c : figures.toCharArray()) {
            if (noRoom(c - '1')) {
                return OUTSIDE;
            }
            route.add(c - '1');
        }
        int here = world.rooms.get(w);
        for (int r : route) {
            if (!hotel.neighbours(here).contains(r)) {
                return NOT;
            }
            here = r;
        }
        remember();
        world.routes.set(w, route);
        return route.size();
    }

    int lay(int t, int w, int side) {
        if (noThing(t) || noWaiter(w)) {
            return UNKNOWN;
        }
        if (side != 0 && side != 1) {
            return OUTSIDE;
        }
        int owner = bearer(t);
        if (world.spilt.contains(t) || owner == w) {
            return NOT;
        }
        if (owner != NONE && !world.rooms.get(owner).equals(world.rooms.get(w))) {
            return NOT;
        }
        if (weight(tray(w)) + hotel.things.get(t).weight > hotel.waiters.get(w).carries) {
            return NOT;
        }
        remember();
        drop(t);
        (side == 0 ? world.left : world.right).get(w).add(t);
        return weight(tray(w));
    }

    void drop(int t) {
        world.pantry.remove(t);
        for (int w = 0; w < hotel.waiters.size(); w++) {
            world.left.get(w).remove((Integer) t);
            world.right.get(w).remove((Integer) t);
        }
    }

    int takeOff(int t) {
        if (noThing(t)) {
            return UNKNOWN;
        }
        int owner = bearer(t);
        if (owner == NONE) {
            return NOT;
        }
        remember();
        drop(t);
        world.pantry.add(t);
        return owner;
    }

    int treaty(int w, int x, boolean is) {
        if (noWaiter(w) || noWaiter(x) || w == x) {
            return UNKNOWN;
        }
        remember();
        boolean was = is ? !world.treaties.add(Set.of(w, x)) : world.treaties.remove(Set.of(w, x));
        return was ? 1 : 0;
    }

    int draw(int n) {
        seed = Math.floorMod(seed * 1103515245L + 12345L, 1L << 31);
        return (int) (seed / 65536 % n);
    }

    int drift(int n) {
        if (refuse(n) != 0) {
            return refuse(n);
        }
        remember();
        for (int k = 0; k < n; k++) {
            if (!hotel.waiters.isEmpty()) {
                int w = draw(hotel.waiters.size());
                List<Integer> doors = new ArrayList<>(hotel.neighbours(world.rooms.get(w)));
                if (world.routes.get(w).isEmpty() && !doors.isEmpty()) {
                    world.routes.get(w).add(doors.get(draw(doors.size())));
                }
            }
            pass();
        }
        return world.meetings;
    }

    int undo() {
        if (past.isEmpty()) {
            return NOT;
        }
        world = past.removeLast();
        return past.size();
    }

    // ---- trying

    int where(int w, int n) {
        if (noWaiter(w)) {
            return UNKNOWN;
        }
        if (n < 0 || n > 20) {
            return OUTSIDE;
        }
        World kept = world.copy();
        for (int k = 0; k < n; k++) {
            pass();
        }
        int room = world.rooms.get(w);
        world = kept;
        return room;
    }

    /** Lets only some waiters go, each behind his delay, for 20 minutes: the first minute in which they meet. */
    int firstMeeting(List<Integer> who, int[] delays) {
        World kept = world;
        world = kept.copy();
        int first = NONE;
        for (int n = 1; n <= 20 && first == NONE; n++) {
            World next = world.copy();
            for (int w = 0; w < hotel.waiters.size(); w++) {
                if (!who.contains(w)) {
                    next.routes.get(w).clear();
                    next.rooms.set(w, 1000 + w);
                }
            }
            List<List<Integer>> held = new ArrayList<>();
            for (int w = 0; w < hotel.waiters.size(); w++) {
                held.add(next.routes.get(w));
                if (n <= delays[w]) {
                    next.routes.set(w, new ArrayList<>());
                }
            }
            int before = next.meetings;
            world = next;
            pass();
            if (world.meetings > before) {
                first = n;
            }
            for (int w = 0; w < hotel.waiters.size(); w++) {
                if (n <= delays[w]) {
                    world.routes.set(w, held.get(w));
                }
            }
        }
        world = kept;
        return first;
    }

    int meets(int w, int x) {
        if (noWaiter(w) || noWaiter(x) || w == x) {
            return UNKNOWN;
        }
        return firstMeeting(List.of(w, x), new int[4]);
    }

    /** Minutes from a to all rooms, by a queue. */
    int[] minutesFrom(int a) {
        int[] far = new int[hotel.rooms];
        Arrays.fill(far, NONE);
        far[a] = 0;
        Deque<Integer> queue = new ArrayDeque<>(List.of(a));
        while (!queue.isEmpty()) {
            int here = queue.removeFirst();
            for (int r : hotel.neighbours(here)) {
                if (far[r] == NONE) {
                    far[r] = far[here] + 1;
                    queue.addLast(r);
                }
            }
        }
        return far;
    }

    int way(int a, int b, int what) {
        if (noRoom(a) || noRoom(b)) {
            return UNKNOWN;
        }
        if (what != 0 && what != 1) {
            return OUTSIDE;
        }
        int[] back = minutesFrom(b);
        if (what == 0) {
            return back[a];
        }
        if (back[a] <= 0) {
            return NONE;
        }
        for (int r : hotel.neighbours(a)) {
            if (back[r] == back[a] - 1) {
                return r;
            }
        }
        throw new IllegalStateException();
    }

    int bestEnd;
    int[] bestDelays;

    void tryDelays(int w, int[] delays) {
        int count = hotel.waiters.size();
        if (w < count) {
            for (int d = 0; d <= 4; d++) {
                delays[w] = d;
                tryDelays(w + 1, delays);
            }
            return;
        }
        int end = 0;
        List<Integer> all = new ArrayList<>();
        for (int x = 0; x < count; x++) {
            all.add(x);
            if (!world.routes.get(x).isEmpty()) {
                end = Math.max(end, delays[x] + world.routes.get(x).size());
            }
        }
        if ((bestDelays == null || end < bestEnd) && firstMeeting(all, delays) == NONE) {
            bestEnd = end;
            bestDelays = delays.clone();
        }
    }

    int delays(int w) {
        if (w != NONE && noWaiter(w)) {
            return UNKNOWN;
        }
        bestDelays = null;
        tryDelays(0, new int[4]);
        return bestDelays == null ? NONE : w == NONE ? bestEnd : bestDelays[w];
    }

    int bestCount;
    int[] bestTakers;

    void tryTakers(int o, int[] takers, int taken) {
        if (o == hotel.orders.size()) {
            if (taken > bestCount) {
                bestCount = taken;
                bestTakers = takers.clone();
            }
            return;
        }
        Order order = hotel.orders.get(o);
        for (int w = 0; w < hotel.waiters.size(); w++) {
            boolean busy = false;
            for (int k = 0; k < o; k++) {
                busy |= takers[k] == w;
            }
            int far = minutesFrom(world.rooms.get(w))[order.room];
            if (!busy && far != NONE && world.minutes + far <= order.minute) {
                takers[o] = w;
                tryTakers(o + 1, takers, taken + 1);
            }
        }
        takers[o] = NONE;
        tryTakers(o + 1, takers, taken);
    }

    int served(int o) {
        if (o != NONE && (o < 0 || o >= hotel.orders.size())) {
            return UNKNOWN;
        }
        bestCount = -1;
        tryTakers(0, new int[4], 0);
        return o == NONE ? bestCount : bestTakers[o];
    }

    static List<Integer> members(int set) {
        List<Integer> all = new ArrayList<>();
        for (int k = 0; k < 8; k++) {
            if ((set & 1 << k) != 0) {
                all.add(k);
            }
        }
        return all;
    }

    int evened(int w, int what) {
        if (noWaiter(w)) {
            return UNKNOWN;
        }
        if (what != 0 && what != 1) {
            return OUTSIDE;
        }
        int least = Integer.MAX_VALUE;
        int best = 0;
        for (int s = 255; s >= 0; s--) {
            if (tray(w).containsAll(members(s))) {
                List<Integer> rest = tray(w);
                rest.removeAll(members(s));
                int d = Math.abs(weight(members(s)) - weight(rest));
                if (d <= least) {
                    least = d;
                    best = s;
                }
            }
        }
        return what == 0 ? best : least;
    }

    int packed(int w, int what) {
        if (noWaiter(w)) {
            return UNKNOWN;
        }
        if (what != 0 && what != 1) {
            return OUTSIDE;
        }
        int most = -1;
        int best = 0;
        for (int s = 255; s >= 0; s--) {
            boolean fits = world.pantry.containsAll(members(s))
                && weight(tray(w)) + weight(members(s)) <= hotel.waiters.get(w).carries;
            if (fits && worth(members(s)) >= most) {
                most = worth(members(s));
                best = s;
            }
        }
        return what == 0 ? best : most;
    }

    int covered(int r, int n) {
        if (noRoom(r)) {
            return UNKNOWN;
        }
        if (n < 0 || n > 20) {
            return OUTSIDE;
        }
        Set<Integer> now = Set.of(r);
        for (int k = 0; k < n; k++) {
            Set<Integer> next = new TreeSet<>();
            now.forEach(here -> next.addAll(hotel.neighbours(here)));
            now = next;
        }
        return set(now);
    }

    int calm(int n, int q) {
        if (n < 0 || n > 60 || q < 0 || q > 100) {
            return OUTSIDE;
        }
        java.math.BigInteger odds = java.math.BigInteger.valueOf(1000000000L);
        for (int k = 0; k < n; k++) {
            odds = odds.multiply(java.math.BigInteger.valueOf(100 - q)).divide(java.math.BigInteger.valueOf(100));
        }
        return odds.intValueExact();
    }

    // ---- seeing

    int see(int r, int n, boolean pink) {
        if (noRoom(r)) {
            return UNKNOWN;
        }
        if (n < 1 || n > 20) {
            return OUTSIDE;
        }
        if (sights.size() == 6) {
            return FULL;
        }
        sights.add(new Sight(r, n, pink));
        return sights.size();
    }

    boolean wouldBePink(int w, int room, int n) {
        List<Integer> route = world.routes.get(w);
        return route.subList(0, Math.min(n, route.size())).contains(room);
    }

    List<Integer> suspects() {
        List<Integer> all = new ArrayList<>();
        for (int w = 0; w < hotel.waiters.size(); w++) {
            int who = w;
            if (sights.stream().allMatch(s -> wouldBePink(who, s.room, s.minutes) == s.pink)) {
                all.add(w);
            }
        }
        return all;
    }

    int spiller() {
        return set(suspects());
    }

    int look() {
        List<Integer> all = suspects();
        int best = NONE;
        int least = Integer.MAX_VALUE;
        for (int r = 0; r < hotel.rooms; r++) {
            int room = r;
            int pink = (int) all.stream().filter(w -> wouldBePink(w, room, 20)).count();
            if (pink > 0 && pink < all.size() && Math.max(pink, all.size() - pink) < least) {
                least = Math.max(pink, all.size() - pink);
                best = r;
            }
        }
        return best;
    }

    int write(int w, int r) {
        if (noWaiter(w) || noRoom(r)) {
            return UNKNOWN;
        }
        if (book.size() == 15) {
            return FULL;
        }
        book.add(new Entry(w, r));
        return book.size();
    }

    int tear() {
        int had = sights.size() + book.size();
        sights.clear();
        book.clear();
        return had;
    }

    int judge() {
        for (int i = 0; i < book.size(); i++) {
            if (world.rooms.get(book.get(i).waiter) != book.get(i).room) {
                return i;
            }
        }
        return NONE;
    }

    // ---- draws, images

    int seed(int v) {
        if (v < 0) {
            return OUTSIDE;
        }
        int was = (int) seed;
        seed = v;
        return was;
    }

    int keep(int i) {
        if (i != 0 && i != 1) {
            return UNKNOWN;
        }
        images.put(i, world.copy());
        imageSeeds.put(i, seed);
        past.clear();
        return 1;
    }

    int goBack(int i) {
        if (i != 0 && i != 1) {
            return UNKNOWN;
        }
        if (!images.containsKey(i)) {
            return NOT;
        }
        world = images.get(i).copy();
        seed = imageSeeds.get(i);
        past.clear();
        return 1;
    }
}
