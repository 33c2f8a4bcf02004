/** One method a promise: ordinary inputs, the edges that the document names, wrong inputs. */
public final class PromiseTest {
    private static final int NONE = -1;
    private static final int UNKNOWN = -1000000001;
    private static final int OUTSIDE = -1000000002;
    private static final int NOT = -1000000003;
    private static final int FULL = -1000000004;
    private static final int HIGHEST = Integer.MAX_VALUE;
    private static final int LOWEST = Integer.MIN_VALUE;

    /** Six rooms: 0-1-2-3-5-4-1, three waiters, five things, three orders. */
    private static final String HOUSE = "h6 9;p0 1;p1 2;p2 3;p1 4;p3 5;p4 5;w0 100;w3 60;w2 200;"
        + "t30 9;t20 4;t25 20;t8 1;t60 50;o5 4;o0 2;o3 1;";
    /** A passage of four rooms and one room that nothing leads to. */
    private static final String ROW = "h5 0;p0 1;p1 2;p2 3;w0 99;w3 99;w4 99;t10 1;t10 2;t5 3;";

    private static int answers;
    private static int wrong;

    public static void main(String[] args) {
        newObject();
        feed();
        hotel();
        fault();
        faultsOfWords();
        faultsOfNumbers();
        faultsOfCounts();
        told();
        room();
        waiter();
        thing();
        minute();
        spills();
        route();
        lay();
        takeOff();
        treaty();
        drift();
        undo();
        where();
        meets();
        way();
        delays();
        served();
        evened();
        packed();
        covered();
        calm();
        see();
        spiller();
        look();
        write();
        tear();
        judge();
        seed();
        keep();
        goBack();
        System.out.println(wrong == 0 ? answers + " answers are as due" : wrong + " answers are not as due");
        if (wrong != 0) {
            System.exit(1);
        }
    }

    private static void due(String what, int got, int want) {
        answers++;
        if (got != want) {
            wrong++;
            System.out.println(what + ": answered " + got + ", due is " + want);
        }
    }

    private static void feedAll(TrayLands x, String text) {
        for (char c : text.toCharArray()) {
            x.feed(c);
        }
    }

    private static TrayLands made(String text) {
        TrayLands x = new TrayLands();
        feedAll(x, text);
        if (x.hotel() < 0) {
            due("text " + text, x.fault(), NONE);
        }
        return x;
    }

    private static void read(String text, int answer, int at) {
        TrayLands x = new TrayLands();
        feedAll(x, text);
        due("hotel() of '" + text + "'", x.hotel(), answer);
        due("fault() of '" + text + "'", x.fault(), at);
    }

    private static void newObject() {
        TrayLands x = new TrayLands();
        for (int what = 0; what <= 13; what++) {
            due("1 told " + what, x.told(what), 0);
        }
        due("1 fault", x.fault(), NONE);
        due("1 room", x.room(0), UNKNOWN);
        due("1 waiter", x.waiter(0, 0), UNKNOWN);
        due("1 thing", x.thing(0, 0), UNKNOWN);
        due("1 minute", x.minute(1), NOT);
        due("1 drift", x.drift(1), NOT);
        due("1 delays", x.delays(NONE), 0);
        due("1 served", x.served(NONE), 0);
        due("1 spiller", x.spiller(), 0);
        due("1 look", x.look(), NONE);
        due("1 seed", x.seed(0), 0);
    }

    private static void feed() {
        TrayLands x = new TrayLands();
        due("2 least", x.feed(0), 1);
        due("2 most", x.feed(255), 2);
        due("2 below", x.feed(-1), OUTSIDE);
        due("2 above", x.feed(256), OUTSIDE);
        due("2 refused changes nothing", x.told(5), 2);
        for (int n = 3; n <= 240; n++) {
            due("2 letters", x.feed(' '), n);
        }
        due("2 full", x.feed(' '), FULL);
        due("2 outside ahead of full", x.feed(256), OUTSIDE);
        due("2 still", x.told(5), 240);
    }

    private static void hotel() {
        TrayLands x = made(HOUSE);
        due("3 text is empty", x.told(5), 0);
        x.seed(7);
        x.route(0, 2);
        x.lay(0, 0, 0);
        x.treaty(0, 1, true);
        x.see(0, 1, true);
        x.write(0, 0);
        x.keep(0);
        x.minute(1);
        feedAll(x, "h9 9;");
        due("3 fault", x.hotel(), -12);
        due("3 text is empty with a fault", x.told(5), 0);
        due("3 as it was", x.told(6), 1);
        due("3 seen as it was", x.told(11), 1);
        due("3 undone as it was", x.told(13), 1);
        due("3 image as it was", x.goBack(0), 1);
        x.minute(1);
        feedAll(x, HOUSE);
        due("3 waiters", x.hotel(), 3);
        due("3 minute 0", x.told(6), 0);
        due("3 no meetings", x.told(7), 0);
        due("3 pantry", x.told(9), 31);
        due("3 nothing seen", x.told(11), 0);
        due("3 no book", x.told(12), 0);
        due("3 nothing undone", x.told(13), 0);
        due("3 no image", x.goBack(0), NOT);
        due("3 no route", x.waiter(0, 6), 0);
        due("3 no treaty", x.waiter(0, 7), 0);
        due("3 tray empty", x.waiter(0, 4), 0);
        due("3 seed stays", x.seed(0), 7);
        due("3 empty text", x.hotel(), 0);
        due("3 no hotel", x.told(0), 0);
        due("3 no things", x.told(9), 0);
        due("3 no minutes", x.minute(1), NOT);
        read("   ", 0, NONE);
        read(" ".repeat(240), 0, NONE);
    }

    private static void fault() {
        TrayLands x = new TrayLands();
        due("4 at first", x.fault(), NONE);
        feedAll(x, "h1 0;x");
        due("4 fault", x.hotel(), -11);
        due("4 letter", x.fault(), 5);
        x.feed('h');
        due("4 till the next hotel()", x.fault(), 5);
        due("4 end", x.hotel(), -11);
        due("4 end at the length", x.fault(), 1);
        feedAll(x, "h1 0;");
        due("4 none", x.hotel(), 0);
        due("4 none", x.fault(), NONE);
    }

    private static void faultsOfWords() {
        read("p0 1;", -11, 0);
        read("  w0 1;", -11, 2);
        read("1", -11, 0);
        read(";", -11, 0);
        read("H1 0;", -11, 0);
        read("h", -11, 1);
        read("h1", -11, 2);
        read("h1 0", -11, 4);
        read("h1 0  ", -11, 6);
        read("h1;", -11, 2);
        read("h;", -11, 1);
        read("h1 h", -11, 3);
        read("h1 0 1;", -11, 5);
        read("h1 0 1111;", -11, 5);
        read("h1 0;;", -11, 5);
        read("h1 0;5", -11, 5);
        read("h1 0w0 1;", -11, 4);
        read("h1 0;w0\t1;", -11, 7);
        read("h1-1;", -11, 2);
        read("h1 0;\u00e9", -11, 5);
        read("h1 0;w0 1", -11, 9);
        read(" h 1  0 ; w 0 1 ; ", 1, NONE);
        read("h8 99;o7 99;t99 99;t1 0;w7 999;w0 1;p7 0;", 2, NONE);
    }

    private static void faultsOfNumbers() {
        read("h0 0;", -12, 1);
        read("h9 0;", -12, 1);
        read("h1 100;", -12, 3);
        read("h0001 0;", -12, 1);
        read("h001 000;", 0, NONE);
        read("h1 0;w0 1000;", -12, 8);
        read("h1 0;w0 999;", 1, NONE);
        read("h1 0;w0 0;", -12, 8);
        read("h1 0;w1 1;", -12, 6);
        read("h1 0;w0100;", -12, 6);
        read("h1 0;t0 0;", -12, 6);
        read("h1 0;t100 0;", -12, 6);
        read("h1 0;t1 100;", -12, 8);
        read("h1 0;o1 0;", -12, 6);
        read("h1 0;o0 100;", -12, 8);
        read("h2 0;p2 0;", -12, 6);
        read("h2 0;p0 2;", -12, 8);
        read("h2 0;p0 99999999999999999999", -12, 8);
        read("h9", -12, 1);
        read("h12", -12, 1);
    }

    private static void faultsOfCounts() {
        read("h1 0;h1 0;", -13, 5);
        read("h1 0; h", -13, 6);
        String passages = "p0 1;p0 2;p0 3;p0 4;p0 5;p0 6;p0 7;p1 2;p1 3;p1 4;p1 5;p1 6;";
        read("h8 0;" + passages, 0, NONE);
        read("h8 0;" + passages + "p1 7;", -13, 65);
        read("h8 0;" + passages + "p", -13, 65);
        read("h1 0;w0 1;w0 1;w0 1;w0 1;", 4, NONE);
        read("h1 0;w0 1;w0 1;w0 1;w0 1;w", -13, 25);
        read("h1 0;o0 1;o0 1;o0 1;o0 1;", 0, NONE);
        read("h1 0;o0 1;o0 1;o0 1;o0 1;o", -13, 25);
        read("h1 0;t1 1;t1 1;t1 1;t1 1;t1 1;t1 1;t1 1;t1 1;", 0, NONE);
        read("h1 0;t1 1;t1 1;t1 1;t1 1;t1 1;t1 1;t1 1;t1 1;t", -13, 45);
        read("h2 0;p0 0;", -14, 8);
        read("h2 0;p1  1", -14, 9);
        read("h2 0;p0 1;p0 1;", -14, 13);
        read("h2 0;p0 1;p1 0;", -14, 13);
        read("h1 0;p0 0", -14, 8);
    }

    private static void told() {
        TrayLands x = made(HOUSE);
        int[] first = {6, 6, 3, 5, 3, 0, 0, 0, 0, 31, 0, 0, 0, 0};
        for (int what = 0; what < first.length; what++) {
            due("5 told " + what, x.told(what), first[what]);
        }
        due("5 below", x.told(-1), OUTSIDE);
        due("5 above", x.told(14), OUTSIDE);
        x.feed('h');
        x.see(0, 1, true);
        x.write(0, 0);
        x.write(0, 1);
        x.lay(4, 1, 0);
        x.route(1, 3);
        x.minute(2);
        int[] then = {6, 6, 3, 5, 3, 1, 2, 1, 16, 15, 50, 1, 2, 3};
        for (int what = 0; what < then.length; what++) {
            due("5 then told " + what, x.told(what), then[what]);
        }
    }

    private static void room() {
        TrayLands x = made(HOUSE);
        int[] joined = {2, 21, 10, 36, 34, 24};
        for (int r = 0; r < joined.length; r++) {
            due("6 room " + r, x.room(r), joined[r]);
        }
        due("6 below", x.room(-1), UNKNOWN);
        due("6 above", x.room(6), UNKNOWN);
        due("6 far", x.room(HIGHEST), UNKNOWN);
        due("6 none joined", made(ROW).room(4), 0);
    }

    private static void waiter() {
        TrayLands x = made(HOUSE);
        x.lay(0, 0, 0);
        x.lay(2, 0, 1);
        x.lay(1, 0, 1);
        x.route(0, 232);
        x.treaty(0, 2, true);
        int[] want = {0, 100, 1, 6, 75, 15, 3, 4};
        for (int what = 0; what < want.length; what++) {
            due("7 waiter " + what, x.waiter(0, what), want[what]);
        }
        due("7 the other's treaty", x.waiter(2, 7), 1);
        due("7 below", x.waiter(0, -1), OUTSIDE);
        due("7 above", x.waiter(0, 8), OUTSIDE);
        due("7 unknown first", x.waiter(3, 8), UNKNOWN);
        due("7 none", x.waiter(-1, 0), UNKNOWN);
    }

    private static void thing() {
        TrayLands x = made(HOUSE);
        due("8 weight", x.thing(4, 0), 60);
        due("8 worth", x.thing(4, 1), 50);
        due("8 pantry", x.thing(4, 2), NONE);
        x.lay(4, 1, 1);
        due("8 tray", x.thing(4, 2), 1);
        x.route(1, 3);
        x.minute(1);
        due("8 spilt", x.thing(4, 2), NONE);
        due("8 outside", x.thing(4, 3), OUTSIDE);
        due("8 below", x.thing(4, -1), OUTSIDE);
        due("8 unknown", x.thing(5, 3), UNKNOWN);
        due("8 none", x.thing(-1, 0), UNKNOWN);
    }

    private static void minute() {
        TrayLands x = made(ROW);
        due("9 below", x.minute(0), OUTSIDE);
        due("9 above", x.minute(61), OUTSIDE);
        x.route(0, 2);
        x.route(1, 3);
        due("9 one", x.minute(1), 1);
        due("9 together", x.told(7), 0);
        x.route(0, 3);
        x.route(1, 2);
        due("9 change", x.minute(1), 2);
        due("9 changed rooms with each other", x.told(7), 1);
        due("9 there", x.waiter(0, 0), 2);
        x.route(0, 2);
        due("9 into one room", x.minute(1), 3);
        due("9 met", x.told(7), 2);
        due("9 standing", x.minute(1), 4);
        due("9 nobody went", x.told(7), 2);
        x.route(0, 343);
        due("9 route", x.minute(60), 64);
        due("9 route gone", x.waiter(0, 0), 2);
        due("9 no rooms left", x.waiter(0, 6), 0);
        TrayLands late = made("h1 0;");
        for (int k = 1; k <= 150; k++) {
            late.minute(60);
        }
        due("9 at 9000", late.told(6), 9000);
        due("9 not above", late.minute(1), 9001);
        due("9 full", late.minute(1), FULL);
        due("9 outside ahead of full", late.minute(0), OUTSIDE);
        due("9 drift is full", late.drift(1), FULL);
        due("9 as it was", late.told(6), 9001);
        late.undo();
        due("9 again", late.minute(60), 9060);
        due("9 full again", late.minute(60), FULL);
    }

    private static void spills() {
        TrayLands x = made("h3 10;p0 1;p1 2;w0 99;w1 99;w2 99;t10 1;t11 2;t11 4;t11 8;");
        x.lay(0, 0, 0);
        x.lay(1, 1, 0);
        x.lay(2, 1, 0);
        x.route(0, 2);
        x.route(2, 2);
        x.minute(1);
        due("9 three pairs", x.told(7), 3);
        due("9 even by 10, one a minute, the least of like ones", x.told(8), 2);
        due("9 worth", x.told(10), 2);
        x.treaty(0, 1, true);
        x.route(0, 1);
        x.minute(1);
        x.route(0, 2);
        x.minute(1);
        due("9 met", x.told(7), 5);
        due("9 treaty", x.told(8), 2);
        x.treaty(1, 0, false);
        x.route(0, 1);
        x.minute(1);
        due("9 going apart is no meeting", x.told(7), 5);
        x.route(0, 2);
        x.minute(1);
        due("9 treaty ended", x.told(8), 6);
        due("9 spilt for good", x.lay(1, 1, 0), NOT);
        TrayLands y = made("h2 0;p0 1;w0 99;w1 99;t1 1;t5 1;t3 1;t4 1;");
        y.lay(0, 0, 0);
        y.lay(1, 0, 1);
        y.lay(2, 1, 0);
        y.lay(3, 1, 1);
        y.treaty(0, 1, true);
        y.route(0, 2);
        y.route(1, 1);
        y.minute(1);
        due("9 changed under a treaty", y.told(8), 0);
        y.undo();
        y.treaty(0, 1, false);
        y.minute(1);
        due("9 both spill the heaviest of both sides", y.told(8), 10);
        TrayLands z = made("h2 0;p0 1;w0 99;w1 99;t1 1;t1 1;");
        z.lay(0, 0, 0);
        z.lay(1, 1, 1);
        z.route(0, 2);
        z.minute(1);
        due("9 the lightest", z.told(8), 3);
    }

    private static void route() {
        TrayLands x = made(HOUSE);
        due("10 none", x.route(0, 0), 0);
        due("10 one", x.route(0, 2), 1);
        due("10 nine", x.route(0, 212121212), 9);
        due("10 anew", x.route(0, 2346), 4);
        due("10 below", x.route(0, -1), OUTSIDE);
        due("10 lowest", x.route(0, LOWEST), OUTSIDE);
        due("10 ten figures", x.route(0, 1000000000), OUTSIDE);
        due("10 highest", x.route(0, HIGHEST), OUTSIDE);
        due("10 no room 7", x.route(0, 27), OUTSIDE);
        due("10 figure 0", x.route(0, 20), OUTSIDE);
        due("10 figure 0 within", x.route(0, 102), OUTSIDE);
        due("10 outside ahead of not", x.route(0, 37), OUTSIDE);
        due("10 first not joined", x.route(0, 3), NOT);
        due("10 where he is", x.route(0, 1), NOT);
        due("10 later not joined", x.route(0, 24), NOT);
        due("10 same twice", x.route(0, 22), NOT);
        due("10 the ninth from behind is no room", x.route(0, 712121212), OUTSIDE);
        due("10 the ninth not joined", x.route(0, 212121214), NOT);
        due("10 unknown", x.route(3, -1), UNKNOWN);
        due("10 none", x.route(-1, 0), UNKNOWN);
        due("10 refused changes nothing", x.waiter(0, 6), 4);
        x.minute(1);
        due("10 the first first", x.waiter(0, 0), 1);
        due("10 ended", x.route(0, 0), 0);
        x.minute(1);
        due("10 stays", x.waiter(0, 0), 1);
    }

    private static void lay() {
        TrayLands x = made("h2 0;p0 1;w0 50;w0 30;w1 60;t30 1;t20 1;t11 1;t99 1;");
        due("11 left", x.lay(0, 0, 0), 30);
        due("11 just", x.lay(1, 0, 1), 50);
        due("11 sides", x.waiter(0, 3), 2);
        due("11 too heavy", x.lay(2, 0, 0), NOT);
        due("11 on his tray", x.lay(0, 0, 1), NOT);
        due("11 from one in another room", x.lay(0, 2, 0), NOT);
        due("11 from another tray", x.lay(0, 1, 1), 30);
        due("11 is gone there", x.waiter(0, 2), 0);
        due("11 is here", x.waiter(1, 3), 1);
        due("11 side", x.lay(2, 2, 2), OUTSIDE);
        due("11 side below", x.lay(2, 2, -1), OUTSIDE);
        due("11 outside ahead of not", x.lay(0, 1, 2), OUTSIDE);
        due("11 thing", x.lay(4, 2, 2), UNKNOWN);
        due("11 waiter", x.lay(2, 3, 2), UNKNOWN);
        due("11 below", x.lay(-1, 0, 0), UNKNOWN);
        due("11 pantry", x.told(9), 12);
        due("11 refused is not kept", x.told(13), 3);
    }

    private static void takeOff() {
        TrayLands x = made(HOUSE);
        due("12 pantry", x.takeOff(0), NOT);
        x.lay(0, 2, 1);
        due("12 whose", x.takeOff(0), 2);
        due("12 in the pantry", x.told(9), 31);
        due("12 off", x.waiter(2, 4), 0);
        due("12 unknown", x.takeOff(5), UNKNOWN);
        due("12 below", x.takeOff(-1), UNKNOWN);
        x.lay(4, 1, 0);
        x.route(1, 3);
        x.minute(1);
        due("12 spilt", x.takeOff(4), NOT);
    }

    private static void treaty() {
        TrayLands x = made(HOUSE);
        due("13 made", x.treaty(0, 1, true), 0);
        due("13 again", x.treaty(1, 0, true), 1);
        due("13 set", x.waiter(1, 7), 1);
        due("13 ended", x.treaty(1, 0, false), 1);
        due("13 ended again", x.treaty(0, 1, false), 0);
        due("13 none", x.waiter(0, 7), 0);
        due("13 all are kept", x.told(13), 4);
        due("13 one twice", x.treaty(1, 1, true), UNKNOWN);
        due("13 unknown", x.treaty(0, 3, true), UNKNOWN);
        due("13 below", x.treaty(-1, 0, true), UNKNOWN);
    }

    private static void drift() {
        TrayLands x = made("h3 0;p0 2;p0 1;w0 9;");
        due("14 below", x.drift(0), OUTSIDE);
        due("14 above", x.drift(61), OUTSIDE);
        // 12345 / 65536 is 0: waiter 0; then 1406932606 -> 21468, left over by 2: 0, room 1.
        due("14 meetings", x.drift(1), 0);
        due("14 the first draws", x.waiter(0, 0), 1);
        due("14 minutes", x.told(6), 1);
        due("14 two draws", x.seed(0), 1406932606);
        x.route(0, 131);
        x.drift(1);
        due("14 one draw if he has a route", x.seed(5), 12345);
        TrayLands alone = made("h1 0;w0 1;");
        TrayLands side = made("h2 0;p0 1;w1 9;");
        side.drift(1);
        due("14 the only room is drawn", side.waiter(0, 0), 0);
        due("14 by a draw", side.seed(0), 1406932606);
        alone.drift(60);
        due("14 no room drawn where no passage is", alone.told(6), 60);
        TrayLands empty = made("h1 0;");
        empty.seed(77);
        due("14 no waiters", empty.drift(2), 0);
        due("14 no draw", empty.seed(0), 77);
        due("14 minutes all the same", empty.told(6), 2);
        TrayLands two = made("h2 0;p0 1;w0 9;w1 9;");
        two.drift(1);
        due("14 all meetings", two.drift(5), two.told(7));
        two.undo();
        due("14 one step", two.told(6), 1);
    }

    private static void undo() {
        TrayLands x = made(HOUSE);
        due("15 none", x.undo(), NOT);
        x.lay(0, 0, 0);
        x.treaty(0, 1, true);
        x.route(0, 23);
        x.minute(1);
        x.takeOff(0);
        x.drift(3);
        x.minute(99);
        due("15 six", x.told(13), 6);
        int seed = x.seed(0);
        x.seed(seed);
        due("15 drift", x.undo(), 5);
        due("15 minute 1", x.told(6), 1);
        due("15 seed stays", x.seed(0), seed);
        due("15 takeOff", x.undo(), 4);
        due("15 back on the tray", x.thing(0, 2), 0);
        due("15 minute", x.undo(), 3);
        due("15 route again", x.waiter(0, 6), 2);
        due("15 room again", x.waiter(0, 0), 0);
        due("15 route", x.undo(), 2);
        due("15 no route", x.waiter(0, 6), 0);
        due("15 treaty", x.undo(), 1);
        due("15 no treaty", x.waiter(1, 7), 0);
        due("15 lay", x.undo(), 0);
        due("15 pantry", x.told(9), 31);
        due("15 no more", x.undo(), NOT);
        for (int k = 0; k < 25; k++) {
            x.minute(1);
        }
        due("15 twenty at most", x.told(13), 20);
        x.see(0, 1, true);
        x.write(0, 0);
        for (int k = 19; k >= 0; k--) {
            due("15 more", x.undo(), k);
        }
        due("15 the oldest are lost", x.told(6), 5);
        due("15 lost", x.undo(), NOT);
        due("15 seen stays", x.told(11), 1);
        due("15 book stays", x.told(12), 1);
        spillUndone();
    }

    private static void spillUndone() {
        TrayLands x = made(HOUSE);
        x.lay(4, 1, 0);
        x.route(1, 3);
        x.minute(1);
        due("15 spilt", x.told(8), 16);
        x.undo();
        due("15 not spilt", x.told(8), 0);
        due("15 no meeting", x.told(7), 0);
        due("15 on the left", x.waiter(1, 2), 16);
    }

    private static void where() {
        TrayLands x = made(HOUSE);
        x.route(0, 234);
        int[] rooms = {0, 1, 2, 3, 3};
        for (int n = 0; n < rooms.length; n++) {
            due("16 where " + n, x.where(0, n), rooms[n]);
        }
        due("16 last", x.where(0, 20), 3);
        due("16 no route", x.where(1, 20), 3);
        due("16 above", x.where(0, 21), OUTSIDE);
        due("16 below", x.where(0, -1), OUTSIDE);
        due("16 unknown", x.where(3, 21), UNKNOWN);
        due("16 nothing changes", x.told(6), 0);
    }

    private static void meets() {
        TrayLands x = made(ROW);
        due("17 never", x.meets(0, 1), NONE);
        x.route(0, 2);
        due("17 stays apart", x.meets(0, 1), NONE);
        x.route(1, 3212);
        due("17 change", x.meets(0, 1), 2);
        due("17 either way", x.meets(1, 0), 2);
        x.route(0, 23);
        due("17 change rooms", x.meets(0, 1), 2);
        x.route(1, 343434343);
        x.route(0, 212121212);
        due("17 no meeting", x.meets(0, 1), NONE);
        due("17 one twice", x.meets(1, 1), UNKNOWN);
        due("17 unknown", x.meets(0, 3), UNKNOWN);
        due("17 below", x.meets(-1, 0), UNKNOWN);
        TrayLands y = made("h2 0;p0 1;w0 9;w0 9;");
        due("17 in one room, nobody goes", y.meets(0, 1), NONE);
        y.route(0, 2);
        due("17 apart", y.meets(0, 1), NONE);
        y.route(1, 2);
        due("17 side by side", y.meets(0, 1), 1);
        y.treaty(0, 1, true);
        due("17 with a treaty too", y.meets(0, 1), 1);
        due("17 tried only", y.told(7), 0);
    }

    private static void way() {
        TrayLands x = made(HOUSE);
        due("18 minutes", x.way(0, 5, 0), 3);
        due("18 next", x.way(0, 5, 1), 1);
        due("18 the least of like ones", x.way(1, 5, 1), 4);
        due("18 back", x.way(5, 2, 1), 3);
        due("18 like ones", x.way(5, 1, 0), 2);
        due("18 beside", x.way(1, 4, 1), 4);
        due("18 there", x.way(2, 2, 0), 0);
        due("18 there, next", x.way(2, 2, 1), NONE);
        due("18 outside", x.way(0, 5, 2), OUTSIDE);
        due("18 below", x.way(0, 5, -1), OUTSIDE);
        due("18 unknown", x.way(0, 6, 2), UNKNOWN);
        due("18 unknown first", x.way(-1, 0, 0), UNKNOWN);
        TrayLands y = made(ROW);
        due("18 no way", y.way(0, 4, 0), NONE);
        due("18 no next", y.way(0, 4, 1), NONE);
        TrayLands ring = made("h4 0;p0 3;p3 2;p2 1;p1 0;");
        due("18 round", ring.way(0, 2, 0), 2);
        due("18 least round", ring.way(0, 2, 1), 1);
        due("18 by room 0", ring.way(1, 3, 1), 0);
        TrayLands longest = made("h8 0;p0 1;p1 2;p2 3;p3 4;p4 5;p5 6;p6 7;");
        due("18 longest", longest.way(0, 7, 0), 7);
    }

    private static void delays() {
        TrayLands x = made("h5 0;p0 1;p1 2;p1 3;p2 4;w0 9;w3 9;");
        due("19 no routes", x.delays(NONE), 0);
        due("19 no delay", x.delays(0), 0);
        x.route(0, 2);
        due("19 one minute", x.delays(NONE), 1);
        x.route(0, 23);
        x.route(1, 235);
        // Both want room 1 first. If 1 waits, 0 is through ahead of him; if 0 waits, all is as late as 1 is at best.
        due("19 minutes", x.delays(NONE), 3);
        due("19 the first waits", x.delays(0), 1);
        due("19 the second goes", x.delays(1), 0);
        x.route(1, 23);
        due("19 they end in one room", x.delays(NONE), NONE);
        due("19 none for one", x.delays(1), NONE);
        x.route(1, 21);
        due("19 he comes to where the other waits", x.delays(NONE), 3);
        due("19 the least first", x.delays(0), 0);
        due("19 the other waits", x.delays(1), 1);
        due("19 unknown", x.delays(2), UNKNOWN);
        due("19 below", x.delays(-2), UNKNOWN);
        due("19 nothing changes", x.waiter(0, 6), 2);
        TrayLands far = made("h7 0;p0 1;p1 2;p2 3;p3 4;p4 5;p2 6;w0 9;w5 9;");
        far.route(0, 234565);
        far.route(1, 5437);
        due("19 he turns off ahead of the other", far.delays(NONE), 8);
        due("19 two minutes", far.delays(0), 2);
        due("19 none", far.delays(1), 0);
        TrayLands y = made(ROW);
        y.route(0, 234);
        y.route(1, 321);
        due("19 no way past", y.delays(NONE), NONE);
        y.treaty(0, 1, true);
        due("19 treaties do not help", y.delays(NONE), NONE);
        late();
        TrayLands four = made("h6 0;p0 4;p1 4;p2 4;p3 4;p4 5;w0 9;w1 9;w2 9;w3 9;");
        four.route(0, 51);
        four.route(1, 52);
        four.route(2, 53);
        four.route(3, 54);
        due("19 one by one", four.delays(NONE), 5);
        for (int w = 0; w < 4; w++) {
            due("19 waiter by waiter the least", four.delays(w), w);
        }
    }

    /** One goes to and fro ahead of a door that the other needs for good. */
    private static void late() {
        TrayLands x = made("h3 0;p0 1;p1 2;w0 9;w1 9;");
        x.route(1, 3232321);
        x.route(0, 2);
        due("19 he never comes through", x.delays(NONE), NONE);
        TrayLands y = made("h5 0;p0 1;p1 2;p2 3;p1 4;w0 9;w3 9;");
        y.route(0, 23);
        y.route(1, 34325);
        due("19 four do", y.delays(NONE), 6);
        due("19 four", y.delays(0), 4);
        TrayLands z = made("h5 0;p0 1;p1 2;p2 3;p1 4;w0 9;w2 9;");
        z.route(0, 23);
        z.route(1, 434325);
        due("19 five minutes would do", z.delays(NONE), NONE);
    }

    private static void served() {
        TrayLands x = made(HOUSE);
        due("20 all", x.served(NONE), 3);
        due("20 first", x.served(0), 0);
        due("20 second", x.served(1), 2);
        due("20 third", x.served(2), 1);
        due("20 unknown", x.served(3), UNKNOWN);
        due("20 below", x.served(-2), UNKNOWN);
        x.minute(2);
        due("20 later", x.served(NONE), 2);
        due("20 by waiter 1", x.served(0), 1);
        due("20 by waiter 0", x.served(1), 0);
        due("20 nobody", x.served(2), NONE);
        TrayLands y = made("h3 0;p0 1;w0 9;w1 9;w2 9;o1 0;o1 1;o1 99;o2 0;");
        due("20 most", y.served(NONE), 3);
        due("20 only 1 is there", y.served(0), 1);
        due("20 then 0", y.served(1), 0);
        due("20 not reached", y.served(2), NONE);
        due("20 there", y.served(3), 2);
        TrayLands z = made("h2 0;p0 1;w0 9;o0 5;o1 5;");
        due("20 one", z.served(NONE), 1);
        due("20 the first order", z.served(0), 0);
        due("20 nobody last", z.served(1), NONE);
    }

    private static void evened() {
        TrayLands x = made(HOUSE);
        due("21 empty", x.evened(2, 0), 0);
        due("21 empty differs", x.evened(2, 1), 0);
        x.lay(0, 2, 0);
        x.lay(1, 2, 0);
        x.lay(2, 2, 0);
        due("21 the least set", x.evened(2, 0), 1);
        due("21 by", x.evened(2, 1), 15);
        x.lay(4, 2, 1);
        due("21 four", x.evened(2, 0), 7);
        due("21 differ", x.evened(2, 1), 15);
        due("21 tried only", x.waiter(2, 2), 7);
        due("21 outside", x.evened(2, 2), OUTSIDE);
        due("21 unknown", x.evened(3, 2), UNKNOWN);
        TrayLands y = made("h1 0;w0 9;t7 0;");
        y.lay(0, 0, 0);
        due("21 one thing on the right", y.evened(0, 0), 0);
        due("21 all of it", y.evened(0, 1), 7);
    }

    private static void packed() {
        TrayLands x = made(HOUSE);
        due("22 set", x.packed(0, 0), 28);
        due("22 worth", x.packed(0, 1), 71);
        due("22 just", x.packed(1, 0), 16);
        x.lay(4, 2, 0);
        due("22 pantry only", x.packed(0, 0), 15);
        x.lay(0, 0, 0);
        x.lay(1, 0, 0);
        due("22 besides", x.packed(0, 0), 12);
        due("22 besides, worth", x.packed(0, 1), 21);
        x.lay(3, 1, 0);
        due("22 no more than is left", x.packed(1, 0), 4);
        x.lay(2, 1, 0);
        due("22 nothing is left", x.packed(1, 0), 0);
        x.takeOff(1);
        due("22 the tray is counted", x.packed(1, 0), 2);
        x.takeOff(0);
        due("22 too heavy together", x.packed(1, 0), 2);
        due("22 outside", x.packed(0, 2), OUTSIDE);
        due("22 below", x.packed(0, -1), OUTSIDE);
        due("22 unknown", x.packed(3, 2), UNKNOWN);
        TrayLands y = made("h1 0;w0 5;t5 3;t5 3;t1 0;t2 1;t3 2;");
        due("22 least set", y.packed(0, 0), 1);
        due("22 worth", y.packed(0, 1), 3);
        TrayLands least = made("h1 0;w0 1;t1 1;");
        due("22 worth 1", least.packed(0, 0), 1);
        least.lay(0, 0, 0);
        due("22 taken", least.packed(0, 0), 0);
        TrayLands z = made("h1 0;w0 5;t1 0;");
        due("22 nothing is worth as much", z.packed(0, 0), 0);
    }

    private static void covered() {
        TrayLands x = made(HOUSE);
        due("23 none", x.covered(3, 0), 8);
        due("23 one", x.covered(3, 1), 36);
        due("23 two, to where he was too", x.covered(3, 2), 26);
        due("23 twenty", x.covered(5, 20), 63);
        due("23 above", x.covered(0, 21), OUTSIDE);
        due("23 below", x.covered(0, -1), OUTSIDE);
        due("23 unknown", x.covered(6, 21), UNKNOWN);
        due("23 no passage", made(ROW).covered(4, 1), 0);
        due("23 there still", made(ROW).covered(4, 0), 16);
    }

    private static void calm() {
        TrayLands x = new TrayLands();
        due("24 no day", x.calm(0, 100), 1000000000);
        due("24 sure", x.calm(60, 0), 1000000000);
        due("24 never", x.calm(1, 100), 0);
        due("24 three", x.calm(3, 10), 729000000);
        due("24 cut each time", x.calm(5, 33), 135012510);
        due("24 cut at the end", x.calm(60, 99), 0);
        due("24 nine of ten", x.calm(9, 90), 1);
        due("24 ten", x.calm(10, 90), 0);
        due("24 days above", x.calm(61, 1), OUTSIDE);
        due("24 days below", x.calm(-1, 1), OUTSIDE);
        due("24 odds above", x.calm(1, 101), OUTSIDE);
        due("24 odds below", x.calm(1, -1), OUTSIDE);
        long odds = 1000000000L;
        for (int n = 1; n <= 60; n++) {
            odds = odds * 93 / 100;
            due("24 day " + n, x.calm(n, 7), (int) odds);
        }
    }

    private static void see() {
        TrayLands x = made(HOUSE);
        due("25 minute below", x.see(0, 0, true), OUTSIDE);
        due("25 minute above", x.see(0, 21, true), OUTSIDE);
        due("25 unknown", x.see(6, 0, true), UNKNOWN);
        due("25 below", x.see(-1, 1, true), UNKNOWN);
        for (int k = 1; k <= 6; k++) {
            due("25 how much", x.see(k - 1, 20, false), k);
        }
        due("25 full", x.see(0, 1, true), FULL);
        due("25 outside ahead of full", x.see(0, 0, true), OUTSIDE);
        due("25 six", x.told(11), 6);
        due("25 not undone", x.told(13), 0);
    }

    private static void spiller() {
        TrayLands x = made(HOUSE);
        due("26 all", x.spiller(), 7);
        x.route(0, 234);
        x.route(1, 65);
        x.route(2, 256);
        x.see(1, 1, true);
        due("26 two", x.spiller(), 5);
        x.see(5, 2, false);
        due("26 not yet", x.spiller(), 5);
        x.see(5, 3, false);
        due("26 one", x.spiller(), 1);
        x.see(3, 20, true);
        due("26 still", x.spiller(), 1);
        x.see(0, 20, true);
        due("26 he did not come to where he was", x.spiller(), 0);
        x.tear();
        x.see(1, 20, true);
        x.minute(1);
        due("26 from now", x.spiller(), 0);
        x.route(0, 1);
        x.tear();
        x.see(0, 1, true);
        due("26 room 0", x.spiller(), 1);
    }

    private static void look() {
        TrayLands x = made(HOUSE);
        due("27 none goes", x.look(), NONE);
        x.route(0, 234);
        x.route(1, 65);
        x.route(2, 256);
        due("27 the least of like ones", x.look(), 1);
        x.see(1, 1, true);
        due("27 of those left", x.look(), 2);
        x.see(2, 2, true);
        due("27 one is left", x.look(), NONE);
        x.see(2, 2, false);
        due("27 none is left", x.look(), NONE);
        due("27 no hotel", new TrayLands().look(), NONE);
        TrayLands y = made("h5 0;p0 1;p0 2;p0 3;p0 4;w0 9;w0 9;w0 9;w0 9;");
        y.route(0, 2);
        y.route(1, 3);
        y.route(2, 31415);
        y.route(3, 415);
        due("27 the greatest part is least", y.look(), 0);
        y.see(0, 20, true);
        due("27 two, by room 2", y.look(), 2);
        y.see(3, 20, true);
        due("27 still two", y.spiller(), 12);
        y.see(3, 1, true);
        due("27 one came there at once", y.spiller(), 8);
    }

    private static void write() {
        TrayLands x = made(HOUSE);
        due("28 waiter", x.write(3, 0), UNKNOWN);
        due("28 room", x.write(0, 6), UNKNOWN);
        due("28 below", x.write(0, -1), UNKNOWN);
        for (int k = 1; k <= 15; k++) {
            due("28 how many", x.write(k % 3, k % 6), k);
        }
        due("28 full", x.write(0, 0), FULL);
        due("28 unknown ahead of full", x.write(3, 0), UNKNOWN);
        due("28 fifteen", x.told(12), 15);
    }

    private static void tear() {
        TrayLands x = made(HOUSE);
        due("29 nothing", x.tear(), 0);
        x.see(0, 1, true);
        x.write(0, 5);
        x.write(0, 5);
        due("29 both", x.tear(), 3);
        due("29 nothing seen", x.told(11), 0);
        due("29 no book", x.told(12), 0);
        due("29 none wrong", x.judge(), NONE);
        due("29 all fit", x.spiller(), 7);
        due("29 anew", x.write(0, 0), 1);
    }

    private static void judge() {
        TrayLands x = made(HOUSE);
        due("30 empty", x.judge(), NONE);
        x.write(0, 0);
        x.write(1, 3);
        due("30 none", x.judge(), NONE);
        x.write(2, 3);
        x.write(2, 4);
        due("30 the first", x.judge(), 2);
        x.route(1, 3);
        x.minute(1);
        due("30 as it is now", x.judge(), 1);
        x.undo();
        due("30 undone", x.judge(), 2);
        x.tear();
        x.write(0, 1);
        due("30 entry 0", x.judge(), 0);
    }

    private static void seed() {
        TrayLands x = new TrayLands();
        due("31 at first", x.seed(HIGHEST), 0);
        due("31 what it was", x.seed(5), HIGHEST);
        due("31 below", x.seed(-1), OUTSIDE);
        due("31 lowest", x.seed(LOWEST), OUTSIDE);
        due("31 as it was", x.seed(0), 5);
        TrayLands y = made("h1 0;w0 1;");
        y.seed(HIGHEST);
        y.drift(1);
        due("31 the greatest seed drawn", y.seed(0), (int) ((2147483647L * 1103515245L + 12345L) % 2147483648L));
    }

    private static void keep() {
        TrayLands x = made(HOUSE);
        due("32 below", x.keep(-1), UNKNOWN);
        due("32 above", x.keep(2), UNKNOWN);
        x.minute(1);
        x.keep(2);
        due("32 refused changes nothing", x.told(13), 1);
        due("32 kept", x.keep(1), 1);
        due("32 nothing can be undone", x.undo(), NOT);
        due("32 not the other", x.goBack(0), NOT);
        x.minute(1);
        due("32 over it", x.keep(1), 1);
        x.minute(1);
        x.goBack(1);
        due("32 the later", x.told(6), 2);
        TrayLands bare = new TrayLands();
        due("32 no hotel", bare.keep(0), 1);
        due("32 back", bare.goBack(0), 1);
    }

    private static void goBack() {
        TrayLands x = made(HOUSE);
        due("33 above", x.goBack(2), UNKNOWN);
        due("33 below", x.goBack(-1), UNKNOWN);
        due("33 not kept", x.goBack(0), NOT);
        x.seed(42);
        x.lay(4, 1, 1);
        x.treaty(0, 2, true);
        x.route(0, 23);
        x.route(1, 3);
        x.see(0, 1, true);
        x.keep(0);
        x.minute(2);
        x.drift(5);
        x.seed(1);
        x.takeOff(3);
        x.treaty(0, 2, false);
        x.see(0, 1, true);
        due("33 back", x.goBack(0), 1);
        due("33 nothing can be undone", x.told(13), 0);
        due("33 minutes", x.told(6), 0);
        due("33 meetings", x.told(7), 0);
        due("33 spilt", x.told(8), 0);
        due("33 tray", x.waiter(1, 3), 16);
        due("33 route", x.waiter(0, 6), 2);
        due("33 treaty", x.waiter(0, 7), 4);
        due("33 room", x.waiter(1, 0), 3);
        due("33 seen stays", x.told(11), 2);
        due("33 seed", x.seed(1), 42);
        x.minute(1);
        due("33 again", x.goBack(0), 1);
        due("33 the image is as it was", x.told(6), 0);
    }
}
