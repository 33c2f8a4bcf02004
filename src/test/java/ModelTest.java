import java.util.ArrayList;
import java.util.List;
import java.util.Random;

/** Runs of calls chosen by fixed seeds, answered by the program and by the model alike. */
public final class ModelTest {
    private static final int RUNS = 1000;
    private static final int CALLS = 512;
    private static final int NONE = -1;
    private static int wrong;

    private final Random random;
    private final TrayLands lands = new TrayLands();
    private final HotelModel model = new HotelModel();
    private final List<String> log = new ArrayList<>();
    private final int run;
    private int calls;
    private boolean failed;

    private ModelTest(int run) {
        this.run = run;
        random = new Random(run);
    }

    public static void main(String[] args) {
        int runs = args.length > 0 ? Integer.parseInt(args[0]) : RUNS;
        for (int run = 0; run < runs && wrong < 5; run++) {
            new ModelTest(run).play();
        }
        System.out.println(wrong == 0 ? runs + " runs agree with the model" : wrong + " runs differ from the model");
        if (wrong != 0) {
            System.exit(1);
        }
    }

    private void play() {
        while (calls < CALLS && !failed) {
            boolean noHotel = model.hotel.rooms == 0 && random.nextInt(10) != 0;
            if (calls == 0 || noHotel || random.nextInt(200) == 0) {
                feedText();
            } else if (random.nextInt(60) == 0) {
                busyHouse();
            } else {
                oneCall(random.nextInt(40));
            }
        }
    }

    private void due(String call, int got, int want) {
        // A text or a busy house may end behind the last call whose answer is promised.
        if (calls >= CALLS) {
            return;
        }
        calls++;
        log.add(call + " = " + got);
        if (got != want && !failed) {
            failed = true;
            wrong++;
            System.out.println("run " + run + ": " + log + ", due is " + want);
        }
    }

    private void feedText() {
        String text = random.nextInt(4) == 0 ? spoilt(hotelText()) : hotelText();
        for (char c : text.toCharArray()) {
            due("feed(" + (int) c + ")", lands.feed(c), model.feed(c));
        }
        due("hotel()", lands.hotel(), model.hotel());
        due("fault()", lands.fault(), model.fault());
    }

    /** Routes for all waiters, then what comes of them. */
    private void busyHouse() {
        for (int w = 0; w < model.hotel.waiters.size(); w++) {
            int rooms = routeFigures(w);
            due("route(" + w + ", " + rooms + ")", lands.route(w, rooms), model.route(w, rooms));
        }
        for (int w = NONE; w < model.hotel.waiters.size(); w++) {
            due("delays(" + w + ")", lands.delays(w), model.delays(w));
            due("meets(0, " + w + ")", lands.meets(0, w), model.meets(0, w));
        }
        due("look()", lands.look(), model.look());
    }

    private String number(int value) {
        return random.nextInt(12) == 0 ? String.format("%02d", value) : "" + value;
    }

    private String blank() {
        return random.nextInt(15) == 0 ? " " : "";
    }

    private String clause(char word, int first, int second) {
        return blank() + word + blank() + number(first) + " " + blank() + number(second) + blank() + ";";
    }

    private String hotelText() {
        int rooms = 1 + random.nextInt(8);
        if (random.nextInt(3) != 0) {
            rooms = Math.max(rooms, 4);
        }
        StringBuilder text = new StringBuilder(clause('h', rooms, random.nextInt(3) == 0 ? 0 : random.nextInt(40)));
        List<String> clauses = new ArrayList<>();
        List<Integer> pairs = new ArrayList<>();
        for (int k = random.nextInt(13); k > 0; k--) {
            int a = random.nextInt(rooms);
            int b = random.nextInt(rooms);
            int pair = Math.min(a, b) * 8 + Math.max(a, b);
            if (a != b && !pairs.contains(pair)) {
                pairs.add(pair);
                clauses.add(clause('p', a, b));
            }
        }
        for (int k = random.nextInt(8) == 0 ? random.nextInt(6) : 2 + random.nextInt(3); k > 0; k--) {
            clauses.add(clause('w', random.nextInt(rooms), 1 + random.nextInt(random.nextInt(4) == 0 ? 999 : 200)));
        }
        for (int k = random.nextInt(9); k > 0; k--) {
            clauses.add(clause('t', 1 + random.nextInt(random.nextBoolean() ? 99 : 9), random.nextInt(random.nextBoolean() ? 100 : 5)));
        }
        for (int k = random.nextInt(5); k > 0; k--) {
            clauses.add(clause('o', random.nextInt(rooms), random.nextInt(random.nextBoolean() ? 8 : 100)));
        }
        java.util.Collections.shuffle(clauses, random);
        for (String clause : clauses) {
            if (text.length() + clause.length() <= 240) {
                text.append(clause);
            }
        }
        return text.toString();
    }

    private String spoilt(String text) {
        StringBuilder s = new StringBuilder(text);
        String letters = "hpwto;0123456789  xH$\t\u00e9\u0000";
        for (int k = 1 + random.nextInt(2); k > 0; k--) {
            int at = random.nextInt(s.length() + 1);
            char c = letters.charAt(random.nextInt(letters.length()));
            switch (random.nextInt(5)) {
                case 0 -> s.insert(at, c);
                case 1 -> s.setLength(at);
                case 2 -> s.append("p0 0;w0 1;t1 1;o0 1;h".substring(random.nextInt(20)));
                case 3 -> s.deleteCharAt(Math.min(at, s.length() - 1));
                default -> s.setCharAt(Math.min(at, s.length() - 1), c);
            }
            if (s.length() == 0) {
                break;
            }
        }
        return s.toString();
    }

    /** Mostly a number below n, at times one beside it or far off. */
    private int pick(int n) {
        if (random.nextInt(25) == 0) {
            int[] odd = {-1, -2, n, n + 1, Integer.MAX_VALUE, Integer.MIN_VALUE, 32, 1000000000};
            return odd[random.nextInt(odd.length)];
        }
        return n > 0 ? random.nextInt(n) : 0;
    }

    private int minutes(int most) {
        return random.nextInt(4) == 0 ? pick(most + 2) : pick(Math.min(most, 6)) + random.nextInt(2);
    }

    private int routeFigures(int w) {
        if (random.nextInt(12) == 0) {
            return pick(999999999);
        }
        if (w < 0 || w >= model.hotel.waiters.size()) {
            return 1;
        }
        int here = model.world.rooms.get(w);
        int figures = 0;
        for (int k = random.nextInt(10); k > 0; k--) {
            List<Integer> doors = new ArrayList<>(model.hotel.neighbours(here));
            if (random.nextInt(40) == 0) {
                return figures * 10 + random.nextInt(10);
            }
            if (doors.isEmpty()) {
                return figures;
            }
            here = doors.get(random.nextInt(doors.size()));
            figures = figures * 10 + here + 1;
        }
        return figures;
    }

    private void oneCall(int kind) {
        int ws = model.hotel.waiters.size();
        int rs = model.hotel.rooms;
        int ts = model.hotel.things.size();
        int w = pick(ws);
        int x = pick(ws);
        int r = pick(rs);
        int q = pick(rs);
        int t = pick(ts);
        boolean is = random.nextBoolean();
        if (kind < 8) {
            reading(kind, w, r, t);
        } else if (kind < 26) {
            doing(kind, w, x, t, is);
        } else {
            trying(kind, w, x, r, q, is);
        }
        for (int what = 6; what <= 8 && random.nextInt(3) == 0; what++) {
            due("told(" + what + ")", lands.told(what), model.told(what));
        }
    }

    private void reading(int kind, int w, int r, int t) {
        int what = pick(8);
        switch (kind) {
            case 0, 1 -> due("waiter(" + w + ", " + what + ")", lands.waiter(w, what), model.waiter(w, what));
            case 2 -> due("thing(" + t + ", " + what % 4 + ")", lands.thing(t, what % 4), model.thing(t, what % 4));
            case 3 -> due("room(" + r + ")", lands.room(r), model.room(r));
            case 4 -> {
                int all = pick(14);
                due("told(" + all + ")", lands.told(all), model.told(all));
            }
            case 5 -> {
                int n = minutes(60);
                int odds = pick(101);
                due("calm(" + n + ", " + odds + ")", lands.calm(n, odds), model.calm(n, odds));
            }
            case 6 -> {
                int n = minutes(20);
                due("where(" + w + ", " + n + ")", lands.where(w, n), model.where(w, n));
            }
            default -> {
                int n = minutes(20);
                due("covered(" + r + ", " + n + ")", lands.covered(r, n), model.covered(r, n));
            }
        }
    }

    private void doing(int kind, int w, int x, int t, boolean is) {
        switch (kind) {
            case 8, 9 -> {
                int n = minutes(60);
                due("minute(" + n + ")", lands.minute(n), model.minute(n));
            }
            case 10, 11, 12, 13 -> {
                int rooms = routeFigures(w);
                due("route(" + w + ", " + rooms + ")", lands.route(w, rooms), model.route(w, rooms));
            }
            case 14, 15, 16, 17, 18 -> {
                int side = pick(2);
                due("lay(" + t + ", " + w + ", " + side + ")", lands.lay(t, w, side), model.lay(t, w, side));
            }
            case 19 -> due("takeOff(" + t + ")", lands.takeOff(t), model.takeOff(t));
            case 20 -> due("treaty(" + w + ", " + x + ", " + is + ")", lands.treaty(w, x, is), model.treaty(w, x, is));
            case 21 -> {
                int n = minutes(60);
                due("drift(" + n + ")", lands.drift(n), model.drift(n));
            }
            case 22, 23 -> due("undo()", lands.undo(), model.undo());
            case 24 -> {
                int v = random.nextBoolean() ? random.nextInt() : pick(100);
                due("seed(" + v + ")", lands.seed(v), model.seed(v));
            }
            default -> {
                int i = pick(2);
                if (random.nextInt(3) == 0) {
                    due("keep(" + i + ")", lands.keep(i), model.keep(i));
                } else if (is) {
                    due("goBack(" + i + ")", lands.goBack(i), model.goBack(i));
                }
            }
        }
    }

    private void trying(int kind, int w, int x, int r, int q, boolean is) {
        int what = pick(2);
        switch (kind) {
            case 26, 27 -> due("meets(" + w + ", " + x + ")", lands.meets(w, x), model.meets(w, x));
            case 28 -> due("way(" + r + ", " + q + ", " + what + ")", lands.way(r, q, what), model.way(r, q, what));
            case 29 -> {
                int o = pick(model.hotel.waiters.size() + 1) - 1;
                due("delays(" + o + ")", lands.delays(o), model.delays(o));
            }
            case 30, 31 -> {
                int o = pick(model.hotel.orders.size() + 1) - 1;
                due("served(" + o + ")", lands.served(o), model.served(o));
            }
            case 32 -> due("evened(" + w + ", " + what + ")", lands.evened(w, what), model.evened(w, what));
            case 33 -> due("packed(" + w + ", " + what + ")", lands.packed(w, what), model.packed(w, what));
            case 34, 35 -> {
                int n = minutes(20);
                boolean pink = random.nextInt(3) == 0 ? is : model.hotel.rooms > 0 && n > 0 && !model.noRoom(r)
                    && !model.noWaiter(0) && model.wouldBePink(0, r, Math.min(n, 20));
                due("see(" + r + ", " + n + ", " + pink + ")", lands.see(r, n, pink), model.see(r, n, pink));
            }
            case 36 -> due("spiller()", lands.spiller(), model.spiller());
            case 37 -> due("look()", lands.look(), model.look());
            case 38 -> {
                int room = random.nextInt(3) == 0 || model.noWaiter(w) ? r : model.world.rooms.get(w);
                due("write(" + w + ", " + room + ")", lands.write(w, room), model.write(w, room));
                due("judge()", lands.judge(), model.judge());
            }
            default -> {
                if (random.nextInt(4) == 0) {
                    due("tear()", lands.tear(), model.tear());
                }
            }
        }
    }
}
