import java.util.function.Consumer;
import java.util.function.ToIntFunction;

/** Of several refusals the first in the order UNKNOWN, OUTSIDE, NOT, FULL; what is refused changes nothing. */
public final class RefusalEdgeTest {
    private static final int ODD = Edges.HIGHEST;

    public static void main(String[] args) {
        unknownChangesNothing();
        outsideChangesNothing();
        notChangesNothing();
        fullChangesNothing();
        refusedWithoutAHotel();
        unknownAheadOfOutside();
        unknownAheadOfNot();
        unknownAheadOfFull();
        outsideAheadOfNot();
        outsideAheadOfFull();
        everyPairOfWaiterAndWhat();
        everyPairOfWaiters();
        everyLaying();
        everyRoute();
        everySight();
        Edges.end();
    }

    private static void busy(String what, int want, ToIntFunction<TrayLands> call) {
        Edges.refused(what, want, Edges::busy, call);
    }

    private static void bare(String what, int want, ToIntFunction<TrayLands> call) {
        Edges.refused(what, want, x -> x.seed(3), call);
    }

    private static void unknownChangesNothing() {
        for (int w : new int[] {-1, 3, ODD}) {
            busy("7 unknown", Edges.UNKNOWN, x -> x.waiter(w, 0));
            busy("10 unknown", Edges.UNKNOWN, x -> x.route(w, 0));
            busy("11 unknown waiter", Edges.UNKNOWN, x -> x.lay(1, w, 0));
            busy("13 unknown", Edges.UNKNOWN, x -> x.treaty(w, 1, true));
            busy("13 unknown other", Edges.UNKNOWN, x -> x.treaty(1, w, true));
            busy("16 unknown", Edges.UNKNOWN, x -> x.where(w, 0));
            busy("17 unknown", Edges.UNKNOWN, x -> x.meets(w, 1));
            busy("17 unknown other", Edges.UNKNOWN, x -> x.meets(1, w));
            busy("19 unknown", Edges.UNKNOWN, x -> x.delays(w == -1 ? -2 : w));
            busy("20 unknown", Edges.UNKNOWN, x -> x.served(w == -1 ? -2 : w));
            busy("21 unknown", Edges.UNKNOWN, x -> x.evened(w, 0));
            busy("22 unknown", Edges.UNKNOWN, x -> x.packed(w, 0));
            busy("28 unknown", Edges.UNKNOWN, x -> x.write(w, 0));
        }
        for (int r : new int[] {-1, 6, ODD}) {
            busy("6 unknown", Edges.UNKNOWN, x -> x.room(r));
            busy("18 unknown", Edges.UNKNOWN, x -> x.way(r, 0, 0));
            busy("18 unknown other", Edges.UNKNOWN, x -> x.way(0, r, 0));
            busy("23 unknown", Edges.UNKNOWN, x -> x.covered(r, 0));
            busy("25 unknown", Edges.UNKNOWN, x -> x.see(r, 1, true));
            busy("28 unknown room", Edges.UNKNOWN, x -> x.write(0, r));
        }
        for (int t : new int[] {-1, 5, ODD}) {
            busy("8 unknown", Edges.UNKNOWN, x -> x.thing(t, 0));
            busy("11 unknown thing", Edges.UNKNOWN, x -> x.lay(t, 0, 0));
            busy("12 unknown", Edges.UNKNOWN, x -> x.takeOff(t));
        }
        for (int i : new int[] {-1, 2, ODD}) {
            busy("32 unknown", Edges.UNKNOWN, x -> x.keep(i));
            busy("33 unknown", Edges.UNKNOWN, x -> x.goBack(i));
        }
        busy("13 one twice", Edges.UNKNOWN, x -> x.treaty(2, 2, true));
        busy("13 one twice, ended", Edges.UNKNOWN, x -> x.treaty(0, 0, false));
        busy("17 one twice", Edges.UNKNOWN, x -> x.meets(2, 2));
    }

    private static void outsideChangesNothing() {
        busy("2 below", Edges.OUTSIDE, x -> x.feed(-1));
        busy("2 above", Edges.OUTSIDE, x -> x.feed(256));
        busy("5 below", Edges.OUTSIDE, x -> x.told(-1));
        busy("5 above", Edges.OUTSIDE, x -> x.told(14));
        busy("7 above", Edges.OUTSIDE, x -> x.waiter(0, 8));
        busy("8 above", Edges.OUTSIDE, x -> x.thing(0, 3));
        for (int n : new int[] {Edges.LOWEST, -1, 0, 61, ODD}) {
            busy("9 minutes " + n, Edges.OUTSIDE, x -> x.minute(n));
            busy("14 minutes " + n, Edges.OUTSIDE, x -> x.drift(n));
        }
        for (int rooms : new int[] {Edges.LOWEST, -1, 7, 27, 20, 9, 1000000000, ODD}) {
            busy("10 route " + rooms, Edges.OUTSIDE, x -> x.route(0, rooms));
        }
        busy("11 side -1", Edges.OUTSIDE, x -> x.lay(1, 0, -1));
        busy("11 side 2", Edges.OUTSIDE, x -> x.lay(1, 0, 2));
        busy("16 minutes", Edges.OUTSIDE, x -> x.where(0, 21));
        busy("18 what", Edges.OUTSIDE, x -> x.way(0, 1, 2));
        busy("21 what", Edges.OUTSIDE, x -> x.evened(0, 2));
        busy("22 what", Edges.OUTSIDE, x -> x.packed(0, 2));
        busy("23 minutes", Edges.OUTSIDE, x -> x.covered(0, 21));
        busy("24 days", Edges.OUTSIDE, x -> x.calm(61, 0));
        busy("24 odds", Edges.OUTSIDE, x -> x.calm(0, 101));
        busy("25 minutes 0", Edges.OUTSIDE, x -> x.see(0, 0, true));
        busy("25 minutes 21", Edges.OUTSIDE, x -> x.see(0, 21, true));
        busy("31 below", Edges.OUTSIDE, x -> x.seed(-1));
        busy("31 lowest", Edges.OUTSIDE, x -> x.seed(Edges.LOWEST));
    }

    private static void notChangesNothing() {
        busy("10 the first not joined", Edges.NOT, x -> x.route(0, 6));
        busy("10 the second not joined", Edges.NOT, x -> x.route(0, 16));
        busy("11 spilt", Edges.NOT, x -> x.lay(4, 2, 0));
        busy("11 on his tray", Edges.NOT, x -> x.lay(0, 0, 1));
        Consumer<TrayLands> loaded = x -> {
            Edges.feedAll(x, "h2 0;p0 1;w0 50;w1 60;w0 5;t30 1;t21 1;");
            x.hotel();
            x.lay(0, 0, 0);
        };
        Edges.refused("11 in another room", Edges.NOT, loaded, x -> x.lay(0, 1, 0));
        Edges.refused("11 too heavy", Edges.NOT, loaded, x -> x.lay(1, 0, 0));
        Edges.refused("11 too heavy from a tray", Edges.NOT, loaded, x -> x.lay(0, 2, 0));
        busy("12 in the pantry", Edges.NOT, x -> x.takeOff(2));
        busy("12 spilt", Edges.NOT, x -> x.takeOff(4));
        Edges.refused("15 none", Edges.NOT, x -> {
            Edges.busy(x);
            x.keep(0);
        }, TrayLands::undo);
        Edges.refused("33 not kept", Edges.NOT, x -> {
            Edges.feedAll(x, Edges.HOUSE);
            x.hotel();
            x.minute(1);
            x.keep(1);
            x.minute(1);
        }, x -> x.goBack(0));
    }

    private static void fullChangesNothing() {
        Edges.refused("2 full", Edges.FULL, x -> {
            Edges.feedAll(x, "h1 0;w0 9;t1 1;");
            x.hotel();
            x.lay(0, 0, 0);
            Edges.feedAll(x, "h2 5;" + " ".repeat(235));
        }, x -> x.feed('x'));
        Consumer<TrayLands> late = x -> {
            Edges.feedAll(x, "h1 0;w0 9;");
            x.hotel();
            x.seed(5);
            for (int k = 0; k <= 150; k++) {
                x.minute(60);
            }
            x.keep(0);
            x.treaty(0, 0, true);
            x.route(0, 0);
        };
        Edges.refused("9 full", Edges.FULL, late, x -> x.minute(1));
        Edges.refused("9 full, sixty", Edges.FULL, late, x -> x.minute(60));
        Edges.refused("14 full", Edges.FULL, late, x -> x.drift(1));
        Edges.refused("14 full, sixty", Edges.FULL, late, x -> x.drift(60));
        Edges.refused("25 full", Edges.FULL, x -> {
            Edges.busy(x);
            for (int k = 0; k < 4; k++) {
                x.see(3, 20, false);
            }
        }, x -> x.see(0, 1, true));
        Edges.refused("28 full", Edges.FULL, x -> {
            Edges.busy(x);
            for (int k = 0; k < 13; k++) {
                x.write(0, 1);
            }
        }, x -> x.write(0, 0));
    }

    private static void refusedWithoutAHotel() {
        bare("6", Edges.UNKNOWN, x -> x.room(0));
        bare("7", Edges.UNKNOWN, x -> x.waiter(0, 0));
        bare("8", Edges.UNKNOWN, x -> x.thing(0, 0));
        bare("9", Edges.NOT, x -> x.minute(1));
        bare("10", Edges.UNKNOWN, x -> x.route(0, 0));
        bare("11", Edges.UNKNOWN, x -> x.lay(0, 0, 0));
        bare("12", Edges.UNKNOWN, x -> x.takeOff(0));
        bare("13", Edges.UNKNOWN, x -> x.treaty(0, 1, true));
        bare("14", Edges.NOT, x -> x.drift(1));
        bare("15", Edges.NOT, TrayLands::undo);
        bare("16", Edges.UNKNOWN, x -> x.where(0, 0));
        bare("17", Edges.UNKNOWN, x -> x.meets(0, 1));
        bare("18", Edges.UNKNOWN, x -> x.way(0, 0, 0));
        bare("19", Edges.UNKNOWN, x -> x.delays(0));
        bare("20", Edges.UNKNOWN, x -> x.served(0));
        bare("21", Edges.UNKNOWN, x -> x.evened(0, 0));
        bare("22", Edges.UNKNOWN, x -> x.packed(0, 0));
        bare("23", Edges.UNKNOWN, x -> x.covered(0, 0));
        bare("25", Edges.UNKNOWN, x -> x.see(0, 1, true));
        bare("28", Edges.UNKNOWN, x -> x.write(0, 0));
        bare("33", Edges.NOT, x -> x.goBack(0));
    }

    private static void unknownAheadOfOutside() {
        busy("7", Edges.UNKNOWN, x -> x.waiter(3, 8));
        busy("8", Edges.UNKNOWN, x -> x.thing(5, 3));
        busy("10", Edges.UNKNOWN, x -> x.route(3, -1));
        busy("10 ten figures", Edges.UNKNOWN, x -> x.route(3, ODD));
        busy("11 thing", Edges.UNKNOWN, x -> x.lay(5, 0, 2));
        busy("11 waiter", Edges.UNKNOWN, x -> x.lay(0, 3, 2));
        busy("16", Edges.UNKNOWN, x -> x.where(3, 21));
        busy("18 from", Edges.UNKNOWN, x -> x.way(6, 0, 2));
        busy("18 to", Edges.UNKNOWN, x -> x.way(0, 6, 2));
        busy("21", Edges.UNKNOWN, x -> x.evened(3, 2));
        busy("22", Edges.UNKNOWN, x -> x.packed(3, 2));
        busy("23", Edges.UNKNOWN, x -> x.covered(6, 21));
        busy("25", Edges.UNKNOWN, x -> x.see(6, 0, true));
    }

    private static void unknownAheadOfNot() {
        busy("10 a room that is joined to none", Edges.UNKNOWN, x -> x.route(3, 16));
        busy("11 spilt, no such waiter", Edges.UNKNOWN, x -> x.lay(4, 3, 0));
        busy("33 no such image", Edges.UNKNOWN, x -> x.goBack(2));
    }

    private static void unknownAheadOfFull() {
        TrayLands x = Edges.made(Edges.HOUSE);
        for (int k = 0; k < 15; k++) {
            x.see(0, 1, true);
            x.write(0, 0);
        }
        Edges.due("25 room", x.see(6, 1, true), Edges.UNKNOWN);
        Edges.due("25 room, and minutes", x.see(6, 0, true), Edges.UNKNOWN);
        Edges.due("28 waiter", x.write(3, 0), Edges.UNKNOWN);
        Edges.due("28 room", x.write(0, 6), Edges.UNKNOWN);
        Edges.due("28 full", x.write(0, 0), Edges.FULL);
    }

    private static void outsideAheadOfNot() {
        TrayLands bare = new TrayLands();
        Edges.due("9 no hotel", bare.minute(0), Edges.OUTSIDE);
        Edges.due("9 no hotel", bare.minute(61), Edges.OUTSIDE);
        Edges.due("14 no hotel", bare.drift(0), Edges.OUTSIDE);
        Edges.due("14 no hotel", bare.drift(61), Edges.OUTSIDE);
        busy("10 not joined, then no room", Edges.OUTSIDE, x -> x.route(0, 69));
        busy("10 no room, then not joined", Edges.OUTSIDE, x -> x.route(0, 961));
        busy("11 spilt", Edges.OUTSIDE, x -> x.lay(4, 2, 2));
        busy("11 on his tray", Edges.OUTSIDE, x -> x.lay(0, 0, -1));
    }

    private static void outsideAheadOfFull() {
        TrayLands x = Edges.made("h1 0;w0 1;");
        for (int k = 0; k <= 150; k++) {
            x.minute(60);
        }
        Edges.due("9 full", x.minute(0), Edges.OUTSIDE);
        Edges.due("9 full", x.minute(61), Edges.OUTSIDE);
        Edges.due("14 full", x.drift(0), Edges.OUTSIDE);
        Edges.due("14 full", x.drift(61), Edges.OUTSIDE);
        for (int k = 0; k < 7; k++) {
            x.see(0, 1, true);
        }
        Edges.due("25 full", x.see(0, 0, true), Edges.OUTSIDE);
        Edges.due("25 full", x.see(0, 21, true), Edges.OUTSIDE);
        for (int k = 0; k < 241; k++) {
            x.feed(' ');
        }
        Edges.due("2 full", x.feed(-1), Edges.OUTSIDE);
        Edges.due("2 full", x.feed(256), Edges.OUTSIDE);
        Edges.due("2 full, a letter", x.feed(255), Edges.FULL);
    }

    /** A refusal as it is, and any other answer as 0. */
    private static int kind(int answer) {
        return answer < Edges.NONE ? answer : 0;
    }

    private static int due(boolean known, boolean inside) {
        return !known ? Edges.UNKNOWN : !inside ? Edges.OUTSIDE : 0;
    }

    private static void everyPairOfWaiterAndWhat() {
        for (int a : Edges.ODD) {
            TrayLands x = Edges.made(Edges.HOUSE);
            boolean waiter = a >= 0 && a < 3;
            boolean room = a >= 0 && a < 6;
            for (int b : Edges.ODD) {
                String both = " of " + a + ", " + b;
                boolean pair = b == 0 || b == 1;
                boolean minutes = b >= 0 && b <= 20;
                Edges.due("7" + both, kind(x.waiter(a, b)), due(waiter, b >= 0 && b <= 7));
                Edges.due("8" + both, kind(x.thing(a, b)), due(a >= 0 && a < 5, b >= 0 && b <= 2));
                Edges.due("16" + both, kind(x.where(a, b)), due(waiter, minutes));
                Edges.due("18" + both, kind(x.way(a, 5, b)), due(room, pair));
                Edges.due("18 back" + both, kind(x.way(5, a, b)), due(room, pair));
                Edges.due("21" + both, kind(x.evened(a, b)), due(waiter, pair));
                Edges.due("22" + both, kind(x.packed(a, b)), due(waiter, pair));
                Edges.due("23" + both, kind(x.covered(a, b)), due(room, minutes));
                Edges.due("24" + both, kind(x.calm(a, b)), due(true, a >= 0 && a <= 60 && b >= 0 && b <= 100));
            }
        }
    }

    private static void everyPairOfWaiters() {
        for (int a : Edges.ODD) {
            TrayLands x = Edges.made(Edges.HOUSE);
            for (int b : Edges.ODD) {
                boolean two = a >= 0 && a < 3 && b >= 0 && b < 3 && a != b;
                Edges.due("13 of " + a + ", " + b, x.treaty(a, b, false), two ? 0 : Edges.UNKNOWN);
                Edges.due("17 of " + a + ", " + b, x.meets(a, b), two ? Edges.NONE : Edges.UNKNOWN);
                boolean there = a >= 0 && a < 3 && b >= 0 && b < 6;
                Edges.due("28 of " + a + ", " + b, kind(x.write(a, b)), there ? 0 : Edges.UNKNOWN);
            }
        }
    }

    private static void everyLaying() {
        for (int t : Edges.ODD) {
            for (int w : Edges.ODD) {
                TrayLands x = Edges.made("h1 0;w0 999;w0 999;t1 1;t1 1;t1 1;");
                boolean known = t >= 0 && t < 3 && w >= 0 && w < 2;
                for (int side : Edges.ODD) {
                    String all = "11 of " + t + ", " + w + ", " + side;
                    Edges.due(all, kind(x.lay(t, w, side)), due(known, side == 0 || side == 1));
                    x.takeOff(t);
                }
            }
        }
    }

    private static void everyRoute() {
        TrayLands x = Edges.made("h3 0;p0 1;p1 2;w1 9;");
        for (int rooms = 0; rooms < 100; rooms++) {
            int first = rooms / 10;
            int last = rooms % 10;
            boolean figures = rooms == 0 || rooms < 10 && last <= 3 || first <= 3 && last >= 1 && last <= 3;
            boolean one = rooms < 10 && last != 2;
            boolean joined = rooms == 0 || one || first != 2 && last == 2 && first != 0;
            int want = !figures ? Edges.OUTSIDE : !joined ? Edges.NOT : rooms == 0 ? 0 : rooms < 10 ? 1 : 2;
            Edges.due("10 of " + rooms, x.route(0, rooms), want);
        }
        for (int w : Edges.ODD) {
            Edges.due("10 of waiter " + w, x.route(w, 2), w == 0 ? Edges.NOT : Edges.UNKNOWN);
        }
    }

    private static void everySight() {
        for (int r : Edges.ODD) {
            TrayLands x = Edges.made("h3 0;");
            for (int n : Edges.ODD) {
                for (boolean pink : new boolean[] {false, true}) {
                    int got = kind(x.see(r, n, pink));
                    Edges.due("25 of " + r + ", " + n, got, due(r >= 0 && r < 3, n >= 1 && n <= 20));
                    x.tear();
                }
            }
        }
    }
}
