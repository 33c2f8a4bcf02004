import java.util.function.ToIntFunction;

/** The edges that promises 16 to 24 name: what is tried from now. */
public final class TriedEdgeTest {
    /** Eight rooms in a row. */
    private static final String ROW = "h8 0;p0 1;p1 2;p2 3;p3 4;p4 5;p5 6;p6 7;";

    public static void main(String[] args) {
        nothingChangesByTrying();
        whereFrom0To20();
        whereBehindTheRoute();
        meetsAtOnceAndLast();
        meetsNone();
        meetsTwo();
        meetsThoughOneStays();
        wayBounds();
        wayThere();
        wayLongestAndNone();
        wayOfLikeOnesTheLeast();
        delaysOfNone();
        delaysFrom0To4();
        delaysOfTheOther();
        delaysOfEachPair();
        delaysFiveWouldBeNeeded();
        delaysSoonest();
        delaysOfLikeOnesTheFirst();
        delaysWhoeverMeets();
        delaysOfWaiters();
        servedByItsMinute();
        servedAsMinutesPass();
        servedByAnother();
        servedOfLikeOnesTheFirst();
        servedNone();
        servedFromWhereHeIsNow();
        evenedOfNoneOneAll();
        evenedOfLikeOnesTheLeast();
        evenedBounds();
        packedUpToC();
        packedNothing();
        packedOfLikeOnesTheLeast();
        packedOfThePantry();
        packedBounds();
        coveredFrom0To20();
        coveredEachMinute();
        calmBounds();
        calmIsCutEachDay();
        Edges.end();
    }

    private static void trying(String what, ToIntFunction<TrayLands> call) {
        TrayLands x = new TrayLands();
        Edges.busy(x);
        call.applyAsInt(x);
        Edges.unchanged(what, x, Edges::busy);
    }

    private static void nothingChangesByTrying() {
        trying("16 where", x -> x.where(0, 20));
        trying("17 meets", x -> x.meets(0, 2));
        trying("18 way", x -> x.way(0, 5, 1));
        trying("19 delays, minutes", x -> x.delays(Edges.NONE));
        trying("19 delays", x -> x.delays(2));
        trying("20 served, how many", x -> x.served(Edges.NONE));
        trying("20 served", x -> x.served(1));
        trying("21 evened", x -> x.evened(0, 0));
        trying("21 evened, by how much", x -> x.evened(0, 1));
        trying("22 packed", x -> x.packed(2, 0));
        trying("22 packed, worth", x -> x.packed(2, 1));
        trying("23 covered", x -> x.covered(3, 20));
        trying("24 calm", x -> x.calm(60, 50));
        trying("26 spiller", TrayLands::spiller);
        trying("27 look", TrayLands::look);
        trying("30 judge", TrayLands::judge);
        trying("4 fault", TrayLands::fault);
        trying("5 told", x -> x.told(9));
        trying("6 room", x -> x.room(1));
        trying("7 waiter", x -> x.waiter(0, 5));
        trying("8 thing", x -> x.thing(0, 2));
    }

    private static void whereFrom0To20() {
        TrayLands x = Edges.made(ROW + "w0 9;");
        x.route(0, 234567878);
        for (int n = -1; n <= 21; n++) {
            boolean is = n >= 0 && n <= 20;
            int there = n < 8 ? n : n == 8 ? 6 : 7;
            Edges.due("16 behind " + n, x.where(0, n), is ? there : Edges.OUTSIDE);
        }
        for (int n : Edges.ODD) {
            boolean is = n >= 0 && n <= 20;
            Edges.due("16 minutes " + n, Math.min(x.where(0, n), 0), is ? 0 : Edges.OUTSIDE);
        }
        for (int w : Edges.ODD) {
            Edges.due("16 waiter " + w, x.where(w, 20), w == 0 ? 7 : Edges.UNKNOWN);
        }
    }

    private static void whereBehindTheRoute() {
        TrayLands x = Edges.made(ROW + "w3 9;");
        Edges.due("16 no route, now", x.where(0, 0), 3);
        Edges.due("16 no route, at last", x.where(0, 20), 3);
        x.route(0, 343);
        x.minute(2);
        Edges.due("16 from now", x.where(0, 0), 3);
        Edges.due("16 the rest of the route", x.where(0, 1), 2);
        Edges.due("16 and no further", x.where(0, 2), 2);
    }

    private static void meetsAtOnceAndLast() {
        TrayLands x = Edges.made(ROW + "w0 9;w1 9;w3 9;");
        x.route(0, 2);
        Edges.due("17 behind one minute", x.meets(0, 1), 1);
        x.route(0, 212121234);
        x.route(1, 212121212);
        Edges.due("17 behind nine minutes", x.meets(0, 2), 9);
        Edges.due("17 either way", x.meets(2, 0), 9);
        x.minute(1);
        Edges.due("17 from now", x.meets(0, 2), 8);
        x.minute(7);
        Edges.due("17 the next one", x.meets(0, 2), 1);
        x.minute(1);
        Edges.due("17 who have met meet no more", x.meets(0, 2), Edges.NONE);
    }

    private static void meetsNone() {
        TrayLands x = Edges.made(ROW + "w0 9;w0 9;w7 9;");
        Edges.due("17 in one room, none goes", x.meets(0, 1), Edges.NONE);
        Edges.due("17 apart, none goes", x.meets(0, 2), Edges.NONE);
        x.route(0, 2);
        Edges.due("17 parting", x.meets(0, 1), Edges.NONE);
        x.route(1, 234);
        Edges.due("17 both the same way", x.meets(0, 1), 1);
        x.route(0, 23456);
        x.route(2, 765);
        Edges.due("17 in the middle", x.meets(0, 2), 4);
        x.route(2, 767);
        Edges.due("17 he turns ahead of it", x.meets(0, 2), Edges.NONE);
    }

    private static void meetsTwo() {
        TrayLands x = Edges.made(ROW + "w0 9;w7 9;");
        for (int w : Edges.ODD) {
            Edges.due("17 waiters 0, " + w, x.meets(0, w), w == 1 ? Edges.NONE : Edges.UNKNOWN);
            Edges.due("17 waiters " + w + ", 0", x.meets(w, 0), w == 1 ? Edges.NONE : Edges.UNKNOWN);
        }
        Edges.due("17 one twice", x.meets(1, 1), Edges.UNKNOWN);
    }

    private static void meetsThoughOneStays() {
        TrayLands x = Edges.made(ROW + "w0 9;w7 9;");
        x.route(0, 23456787);
        Edges.due("17 he comes to one that stays", x.meets(0, 1), 7);
        x.treaty(0, 1, true);
        Edges.due("17 a treaty does not keep them from it", x.meets(0, 1), 7);
        x.route(1, 7);
        Edges.due("17 the other came towards him", x.meets(0, 1), 6);
    }

    private static void wayBounds() {
        TrayLands x = Edges.made(Edges.HOUSE);
        for (int odd : Edges.ODD) {
            boolean room = odd >= 0 && odd < 6;
            Edges.due("18 from " + odd, Math.min(x.way(odd, 0, 0), 0), room ? 0 : Edges.UNKNOWN);
            Edges.due("18 to " + odd, Math.min(x.way(0, odd, 0), 0), room ? 0 : Edges.UNKNOWN);
            boolean what = odd == 0 || odd == 1;
            Edges.due("18 what " + odd, Math.min(x.way(0, 1, odd), 0), what ? 0 : Edges.OUTSIDE);
        }
    }

    private static void wayThere() {
        TrayLands x = Edges.made(Edges.HOUSE);
        for (int r = 0; r < 6; r++) {
            Edges.due("18 the same room twice is not unknown", x.way(r, r, 0), 0);
            Edges.due("18 there: no next", x.way(r, r, 1), Edges.NONE);
            Edges.due("18 the same twice, another what", x.way(r, r, 2), Edges.OUTSIDE);
        }
        Edges.due("18 one room alone", Edges.made("h1 0;").way(0, 0, 0), 0);
    }

    private static void wayLongestAndNone() {
        TrayLands x = Edges.made(ROW);
        Edges.due("18 seven minutes", x.way(0, 7, 0), 7);
        Edges.due("18 and back", x.way(7, 0, 0), 7);
        Edges.due("18 next", x.way(0, 7, 1), 1);
        Edges.due("18 next, back", x.way(7, 0, 1), 6);
        Edges.due("18 the last step", x.way(6, 7, 1), 7);
        TrayLands y = Edges.made("h8 0;p0 1;p1 2;p6 7;");
        Edges.due("18 no way", y.way(0, 7, 0), Edges.NONE);
        Edges.due("18 no next", y.way(0, 7, 1), Edges.NONE);
        Edges.due("18 no way back", y.way(6, 2, 0), Edges.NONE);
        Edges.due("18 from a room without a passage", y.way(4, 0, 1), Edges.NONE);
    }

    private static void wayOfLikeOnesTheLeast() {
        TrayLands x = Edges.made("h6 0;p0 5;p0 4;p0 3;p3 1;p4 1;p5 1;p1 2;");
        Edges.due("18 like ones", x.way(0, 1, 0), 2);
        Edges.due("18 the least", x.way(0, 1, 1), 3);
        Edges.due("18 the least, back", x.way(1, 0, 1), 3);
        Edges.due("18 the least is no shorter way", Edges.made("h4 0;p0 1;p0 3;p3 2;").way(0, 2, 1), 3);
        Edges.due("18 room 0 next", Edges.made("h4 0;p1 0;p1 3;p0 2;p3 2;").way(1, 2, 1), 0);
    }

    private static void delaysOfNone() {
        TrayLands none = Edges.made("h1 0;");
        Edges.due("19 no waiters", none.delays(Edges.NONE), 0);
        Edges.due("19 nobody's delay", none.delays(0), Edges.UNKNOWN);
        TrayLands still = Edges.made("h1 0;w0 1;w0 1;");
        Edges.due("19 no routes: none meet though in one room", still.delays(Edges.NONE), 0);
        Edges.due("19 no delay of the one", still.delays(0), 0);
        Edges.due("19 no delay of the other", still.delays(1), 0);
        TrayLands one = Edges.made(ROW + "w0 9;");
        one.route(0, 2);
        Edges.due("19 a route of one", one.delays(Edges.NONE), 1);
        one.route(0, 234567878);
        Edges.due("19 a route of nine", one.delays(Edges.NONE), 9);
        Edges.due("19 at once", one.delays(0), 0);
    }

    /** Waiter 0 can go only when 1 has come out of a blind passage, and goes on as told. */
    private static TrayLands blind(int rooms, int other) {
        TrayLands x = Edges.made("h5 0;p0 1;p1 2;p2 3;p1 4;w0 9;w3 9;");
        x.route(0, rooms);
        x.route(1, other);
        return x;
    }

    private static void delaysFrom0To4() {
        TrayLands x = blind(23, 34325);
        Edges.due("19 waits four, goes two", x.delays(Edges.NONE), 6);
        Edges.due("19 four", x.delays(0), 4);
        Edges.due("19 the other none", x.delays(1), 0);
        TrayLands y = blind(234343434, 34325);
        Edges.due("19 waits four, goes nine", y.delays(Edges.NONE), 13);
        Edges.due("19 four again", y.delays(0), 4);
        Edges.due("19 the other none again", y.delays(1), 0);
    }

    private static void delaysOfTheOther() {
        TrayLands x = Edges.made("h5 0;p0 1;p1 2;p2 3;p1 4;w3 9;w0 9;");
        x.route(0, 34325);
        x.route(1, 23);
        Edges.due("19 the greater waits four, goes two", x.delays(Edges.NONE), 6);
        Edges.due("19 the lesser none", x.delays(0), 0);
        Edges.due("19 the greater four", x.delays(1), 4);
    }

    /** Two of four go through one room and back, the others stay: which two must not matter. */
    private static void delaysOfEachPair() {
        for (int a = 0; a < 4; a++) {
            for (int b = a + 1; b < 4; b++) {
                TrayLands x = Edges.made("h6 0;p0 4;p1 4;p2 4;p3 4;w0 9;w1 9;w2 9;w3 9;");
                x.route(a, 51 + a);
                x.route(b, 51 + b);
                Edges.due("19 two of four, minutes", x.delays(Edges.NONE), 3);
                for (int w = 0; w < 4; w++) {
                    Edges.due("19 " + a + " and " + b + ", delay of " + w, x.delays(w), w == b ? 1 : 0);
                }
            }
        }
    }

    private static void delaysFiveWouldBeNeeded() {
        TrayLands x = Edges.made("h5 0;p0 1;p1 2;p2 3;p1 4;w0 9;w2 9;");
        x.route(0, 23);
        x.route(1, 434325);
        Edges.due("19 none", x.delays(Edges.NONE), Edges.NONE);
        Edges.due("19 none of the one", x.delays(0), Edges.NONE);
        Edges.due("19 none of the other", x.delays(1), Edges.NONE);
        Edges.due("19 unknown all the same", x.delays(2), Edges.UNKNOWN);
    }

    private static void delaysSoonest() {
        TrayLands x = Edges.made("h5 0;p0 1;p1 2;p1 3;p2 4;w0 9;w3 9;");
        x.route(0, 23);
        x.route(1, 235);
        // (0, 1) has none meet too, but all are gone behind four minutes then.
        Edges.due("19 soonest", x.delays(Edges.NONE), 3);
        Edges.due("19 though the first waits", x.delays(0), 1);
        Edges.due("19 and the second does not", x.delays(1), 0);
    }

    private static void delaysOfLikeOnesTheFirst() {
        TrayLands x = Edges.made("h6 0;p0 4;p1 4;p2 4;p3 4;p4 5;w0 9;w1 9;w2 9;w3 9;");
        for (int w = 0; w < 4; w++) {
            x.route(w, 51 + w);
        }
        Edges.due("19 four through one room, one by one", x.delays(Edges.NONE), 5);
        for (int w = 0; w < 4; w++) {
            Edges.due("19 waiter by waiter the least", x.delays(w), w);
        }
        x.route(1, 0);
        Edges.due("19 one without a route", x.delays(Edges.NONE), 4);
        Edges.due("19 he waits not", x.delays(1), 0);
        Edges.due("19 the third waits one", x.delays(2), 1);
        Edges.due("19 the fourth two", x.delays(3), 2);
    }

    private static void delaysWhoeverMeets() {
        TrayLands x = Edges.made(ROW + "w0 9;w7 9;");
        x.route(0, 2345678);
        Edges.due("19 one in the way for good", x.delays(Edges.NONE), Edges.NONE);
        x.treaty(0, 1, true);
        Edges.due("19 a treaty does not help", x.delays(Edges.NONE), Edges.NONE);
        x.route(0, 234567);
        Edges.due("19 one room less", x.delays(Edges.NONE), 6);
    }

    private static void delaysOfWaiters() {
        TrayLands x = Edges.made(Edges.HOUSE);
        for (int w : Edges.ODD) {
            boolean is = w >= -1 && w < 3;
            Edges.due("19 waiter " + w, x.delays(w), is ? 0 : Edges.UNKNOWN);
        }
    }

    private static void servedByItsMinute() {
        for (int m = 0; m <= 9; m++) {
            TrayLands x = Edges.made(ROW + "w0 9;o7 " + m + ";");
            Edges.due("20 seven minutes, by " + m, x.served(Edges.NONE), m >= 7 ? 1 : 0);
            Edges.due("20 who, by " + m, x.served(0), m >= 7 ? 0 : Edges.NONE);
        }
        Edges.due("20 there by minute 0", Edges.made("h1 0;w0 1;o0 0;").served(0), 0);
    }

    private static void servedAsMinutesPass() {
        TrayLands x = Edges.made(ROW + "w0 9;o7 8;o0 0;o0 99;");
        x.minute(1);
        Edges.due("20 just in time", x.served(0), 0);
        Edges.due("20 minute 0 is past", x.served(1), Edges.NONE);
        x.minute(1);
        Edges.due("20 too late", x.served(0), Edges.NONE);
        Edges.due("20 so he takes the other", x.served(2), 0);
        x.minute(60);
        x.minute(37);
        Edges.due("20 at minute 99", x.served(Edges.NONE), 1);
        x.minute(1);
        Edges.due("20 at minute 100", x.served(Edges.NONE), 0);
        Edges.due("20 nobody", x.served(2), Edges.NONE);
    }

    private static void servedByAnother() {
        TrayLands x = Edges.made("h1 0;w0 1;w0 1;o0 9;o0 9;o0 9;o0 9;");
        Edges.due("20 as many as waiters", x.served(Edges.NONE), 2);
        int[] who = {0, 1, Edges.NONE, Edges.NONE};
        for (int o = 0; o < 4; o++) {
            Edges.due("20 order " + o, x.served(o), who[o]);
        }
        TrayLands y = Edges.made("h1 0;w0 1;w0 1;w0 1;w0 1;o0 9;");
        Edges.due("20 as many as orders", y.served(Edges.NONE), 1);
        Edges.due("20 the least waiter", y.served(0), 0);
        TrayLands z = Edges.made("h1 0;w0 1;w0 1;w0 1;w0 1;o0 9;o0 9;o0 9;o0 9;");
        Edges.due("20 four", z.served(Edges.NONE), 4);
        Edges.due("20 the fourth by the fourth", z.served(3), 3);
    }

    private static void servedOfLikeOnesTheFirst() {
        TrayLands x = Edges.made("h3 0;p0 1;p1 2;w0 9;w2 9;o1 1;o0 2;");
        Edges.due("20 both", x.served(Edges.NONE), 2);
        Edges.due("20 the lesser waiter for the first order", x.served(0), 0);
        Edges.due("20 the other for the second", x.served(1), 1);
        TrayLands y = Edges.made("h3 0;p0 1;p1 2;w0 9;w2 9;o1 1;o0 1;");
        Edges.due("20 most orders come first", y.served(Edges.NONE), 2);
        Edges.due("20 so the greater waiter", y.served(0), 1);
        Edges.due("20 and the lesser", y.served(1), 0);
        TrayLands z = Edges.made("h2 0;w1 9;o0 9;o1 9;o1 9;");
        Edges.due("20 nobody comes there", z.served(0), Edges.NONE);
        Edges.due("20 nobody last", z.served(1), 0);
        Edges.due("20 he is taken", z.served(2), Edges.NONE);
    }

    private static void servedNone() {
        TrayLands x = Edges.made(Edges.HOUSE);
        for (int o : Edges.ODD) {
            boolean is = o >= -1 && o < 3;
            Edges.due("20 order " + o, Math.min(x.served(o), 0), is ? 0 : Edges.UNKNOWN);
        }
        Edges.due("20 no orders", Edges.made("h1 0;w0 1;").served(Edges.NONE), 0);
        TrayLands none = Edges.made("h1 0;o0 9;");
        Edges.due("20 no waiters", none.served(Edges.NONE), 0);
        Edges.due("20 nobody", none.served(0), Edges.NONE);
        TrayLands far = Edges.made("h2 0;w0 9;o1 99;");
        Edges.due("20 no way there", far.served(Edges.NONE), 0);
    }

    private static void servedFromWhereHeIsNow() {
        TrayLands x = Edges.made(ROW + "w0 9;o3 3;");
        x.route(0, 21);
        Edges.due("20 his route does not count", x.served(0), 0);
        x.minute(1);
        Edges.due("20 one nearer, one later", x.served(0), 0);
        x.minute(1);
        Edges.due("20 back, too late", x.served(0), Edges.NONE);
    }

    private static void evenedOfNoneOneAll() {
        TrayLands x = Edges.made("h1 0;w0 999;" + "t99 1;".repeat(8));
        Edges.due("21 an empty tray", x.evened(0, 0), 0);
        Edges.due("21 by nothing", x.evened(0, 1), 0);
        x.lay(7, 0, 0);
        Edges.due("21 one: the least set is none on the left", x.evened(0, 0), 0);
        Edges.due("21 by all of it", x.evened(0, 1), 99);
        for (int t = 0; t < 7; t++) {
            x.lay(t, 0, 0);
        }
        Edges.due("21 eight like ones", x.evened(0, 0), 15);
        Edges.due("21 even", x.evened(0, 1), 0);
        x.takeOff(0);
        Edges.due("21 seven: three on the left", x.evened(0, 0), 14);
        Edges.due("21 by one of them", x.evened(0, 1), 99);
    }

    private static void evenedOfLikeOnesTheLeast() {
        TrayLands x = Edges.made("h1 0;w0 999;t4 1;t5 1;t6 1;t7 1;");
        for (int t = 0; t < 4; t++) {
            x.lay(t, 0, 1);
        }
        Edges.due("21 6 and 5, or 4 and 7", x.evened(0, 0), 6);
        Edges.due("21 even", x.evened(0, 1), 0);
        TrayLands y = Edges.made("h1 0;w0 999;t1 1;t9 1;");
        y.lay(0, 0, 0);
        y.lay(1, 0, 0);
        Edges.due("21 1 on the left, or 9", y.evened(0, 0), 1);
        Edges.due("21 by 8", y.evened(0, 1), 8);
        TrayLands z = Edges.made("h1 0;w0 999;w0 999;t9 1;t1 1;t9 1;");
        z.lay(2, 0, 0);
        z.lay(1, 0, 0);
        z.lay(0, 1, 0);
        Edges.due("21 of his tray alone", z.evened(0, 0), 2);
        Edges.due("21 and of the other's", z.evened(1, 0), 0);
    }

    private static void evenedBounds() {
        TrayLands x = Edges.made(Edges.HOUSE);
        for (int odd : Edges.ODD) {
            boolean waiter = odd >= 0 && odd < 3;
            Edges.due("21 waiter " + odd, x.evened(odd, 0), waiter ? 0 : Edges.UNKNOWN);
            boolean what = odd == 0 || odd == 1;
            Edges.due("21 what " + odd, x.evened(0, odd), what ? 0 : Edges.OUTSIDE);
        }
    }

    private static void packedUpToC() {
        String things = "t99 1;".repeat(8);
        TrayLands all = Edges.made("h1 0;w0 792;" + things);
        Edges.due("22 all eight weigh C", all.packed(0, 0), 255);
        Edges.due("22 their worth", all.packed(0, 1), 8);
        TrayLands less = Edges.made("h1 0;w0 791;" + things);
        Edges.due("22 C is 1 less", less.packed(0, 0), 127);
        Edges.due("22 worth less", less.packed(0, 1), 7);
        TrayLands one = Edges.made("h1 0;w0 1;t2 99;t1 1;");
        Edges.due("22 C 1", one.packed(0, 0), 2);
        Edges.due("22 most worth", Edges.made("h1 0;w0 999;" + "t99 99;".repeat(8)).packed(0, 1), 792);
    }

    private static void packedNothing() {
        TrayLands x = Edges.made("h1 0;w0 5;t6 9;");
        Edges.due("22 all too heavy", x.packed(0, 0), 0);
        Edges.due("22 worth nothing", x.packed(0, 1), 0);
        TrayLands y = Edges.made("h1 0;w0 5;t5 9;");
        y.lay(0, 0, 0);
        Edges.due("22 the pantry is empty", y.packed(0, 0), 0);
        Edges.due("22 no things", Edges.made("h1 0;w0 5;").packed(0, 1), 0);
        Edges.due("22 what is worth nothing is left, the set is less", Edges.made("h1 0;w0 5;t1 0;").packed(0, 0), 0);
    }

    private static void packedOfLikeOnesTheLeast() {
        TrayLands x = Edges.made("h1 0;w0 10;t10 6;t5 3;t5 3;t10 6;");
        Edges.due("22 thing 0, not 1 and 2", x.packed(0, 0), 1);
        x.lay(0, 0, 0);
        x.takeOff(0);
        Edges.due("22 again", x.packed(0, 0), 1);
        TrayLands y = Edges.made("h1 0;w0 10;t5 3;t5 3;t10 6;");
        Edges.due("22 things 0 and 1, not 2", y.packed(0, 0), 3);
        TrayLands z = Edges.made("h1 0;w0 10;t1 0;t5 3;t5 3;");
        Edges.due("22 without what adds nothing", z.packed(0, 0), 6);
    }

    private static void packedOfThePantry() {
        TrayLands x = Edges.made("h2 0;p0 1;w0 20;w1 99;t9 9;t9 8;t9 7;t2 1;");
        x.lay(0, 1, 0);
        Edges.due("22 not of a tray", x.packed(0, 0), 14);
        x.route(0, 2);
        x.minute(1);
        Edges.due("22 not what is spilt", x.packed(0, 0), 14);
        x.lay(1, 0, 0);
        Edges.due("22 besides what he carries", x.packed(0, 0), 12);
        Edges.due("22 its worth alone", x.packed(0, 1), 8);
        x.lay(2, 0, 0);
        Edges.due("22 just that much is left", x.packed(0, 0), 8);
        x.lay(3, 0, 0);
        Edges.due("22 his tray is full", x.packed(0, 0), 0);
        TrayLands y = Edges.made("h1 0;w0 10;t6 1;t5 9;t4 1;");
        y.lay(0, 0, 0);
        Edges.due("22 what is 1 too heavy besides stays", y.packed(0, 0), 4);
        y.takeOff(0);
        y.lay(1, 0, 0);
        Edges.due("22 as does what is too heavy now", y.packed(0, 0), 4);
    }

    private static void packedBounds() {
        TrayLands x = Edges.made("h1 0;w0 9;w0 9;");
        for (int odd : Edges.ODD) {
            boolean waiter = odd == 0 || odd == 1;
            Edges.due("22 waiter " + odd, x.packed(odd, 0), waiter ? 0 : Edges.UNKNOWN);
            Edges.due("22 what " + odd, x.packed(0, odd), waiter ? 0 : Edges.OUTSIDE);
        }
    }

    private static void coveredFrom0To20() {
        TrayLands x = Edges.made("h2 0;p0 1;");
        for (int n = -1; n <= 21; n++) {
            boolean is = n >= 0 && n <= 20;
            Edges.due("23 behind " + n, x.covered(1, n), is ? n % 2 == 0 ? 2 : 1 : Edges.OUTSIDE);
        }
        for (int odd : Edges.ODD) {
            boolean room = odd == 0 || odd == 1;
            Edges.due("23 room " + odd, x.covered(odd, 20), room ? 1 << odd : Edges.UNKNOWN);
            boolean minutes = odd >= 0 && odd <= 20;
            Edges.due("23 minutes " + odd, Math.min(x.covered(0, odd), 0), minutes ? 0 : Edges.OUTSIDE);
        }
    }

    private static void coveredEachMinute() {
        TrayLands x = Edges.made(ROW);
        Edges.due("23 the last room", x.covered(7, 0), 128);
        Edges.due("23 he cannot stay", x.covered(7, 1), 64);
        Edges.due("23 two", x.covered(7, 2), 160);
        Edges.due("23 seven", x.covered(7, 7), 85);
        Edges.due("23 twenty", x.covered(7, 20), 170);
        TrayLands y = Edges.made("h3 0;p0 1;");
        Edges.due("23 no passage, now", y.covered(2, 0), 4);
        Edges.due("23 no passage, then nowhere", y.covered(2, 1), 0);
        Edges.due("23 nor later", y.covered(2, 20), 0);
        Edges.due("23 a ring of three, all", Edges.made("h3 0;p0 1;p1 2;p2 0;").covered(0, 2), 7);
    }

    private static void calmBounds() {
        TrayLands x = new TrayLands();
        for (int odd : Edges.ODD) {
            boolean days = odd >= 0 && odd <= 60;
            Edges.due("24 days " + odd, x.calm(odd, 0), days ? 1000000000 : Edges.OUTSIDE);
            boolean odds = odd >= 0 && odd <= 100;
            Edges.due("24 odds " + odd, x.calm(0, odd), odds ? 1000000000 : Edges.OUTSIDE);
        }
        Edges.due("24 sixty days", x.calm(60, 0), 1000000000);
        Edges.due("24 sixty-one", x.calm(61, 0), Edges.OUTSIDE);
        Edges.due("24 a hundred of a hundred", x.calm(1, 100), 0);
        Edges.due("24 for sixty days", x.calm(60, 100), 0);
        Edges.due("24 a hundred and one", x.calm(1, 101), Edges.OUTSIDE);
        Edges.due("24 no day, a hundred", x.calm(0, 100), 1000000000);
    }

    private static void calmIsCutEachDay() {
        TrayLands x = new TrayLands();
        Edges.due("24 one of a hundred", x.calm(1, 1), 990000000);
        Edges.due("24 nine days of 90", x.calm(9, 90), 1);
        Edges.due("24 ten days of 90", x.calm(10, 90), 0);
        // 0.99 five times is .9509900499 exactly, cut to nine places.
        Edges.due("24 five of one", x.calm(5, 1), 950990049);
        // 990000000, 980100000, 970299000, 960596010, 950990049, then 941480148.51, 932065346.52, 922744692.54.
        Edges.due("24 cut each day, not at the end", x.calm(8, 1), 922744692);
        for (int q = 0; q <= 100; q++) {
            java.math.BigInteger odds = java.math.BigInteger.valueOf(1000000000);
            for (int day = 0; day < 60; day++) {
                odds = odds.multiply(java.math.BigInteger.valueOf(100 - q)).divide(java.math.BigInteger.valueOf(100));
            }
            Edges.due("24 sixty days of " + q, x.calm(60, q), odds.intValueExact());
        }
    }
}
