/** The edges that section 2 and promises 6 to 15 name: minutes, meetings, spills, trays, treaties, what is undone. */
public final class DoneEdgeTest {
    /** Three rooms in a row, a waiter in each, E 5. */
    private static final String THREE = "h3 5;p0 1;p1 2;w0 99;w1 99;w2 99;t5 1;t6 2;t6 4;t7 8;";

    public static void main(String[] args) {
        roomsFrom0();
        roomJoinedToAllOrNone();
        waitersFrom0();
        waiterWhatFrom0To7();
        thingsFrom0();
        thingWhatFrom0To2();
        noRouteAtFirst();
        minuteFrom1To60();
        minutesAbove9000AreFull();
        driftAbove9000IsFull();
        oneRoomAMinute();
        meetIfOneAtLeastWent();
        meetInOneRoom();
        meetByChangingRooms();
        notByFollowingOrParting();
        meetingsArePairs();
        evenByEOrLess();
        evenAheadOfTheMinute();
        evenByNothing();
        heaviestOfLikeOnesTheLeast();
        oneAMinuteAtMost();
        treatyWithOneOfTwo();
        spiltForGood();
        routeOfNoneToNine();
        routeFiguresOfRooms();
        routeJoined();
        laidUpToC();
        laidAllEight();
        laidFromAnotherTray();
        laidOnSide0Or1();
        laidNot();
        takenOff();
        treatyOfTwo();
        driftFrom1To60();
        driftDraws();
        driftTellsAllMeetings();
        undoneNoneAtFirst();
        undoneEachOfSix();
        undoneTwentyAtMost();
        undoneAcrossTheTwentieth();
        undoneNotWhatWasRefused();
        undoneLeavesTheRest();
        Edges.end();
    }

    private static void roomsFrom0() {
        TrayLands x = Edges.made(Edges.HOUSE);
        for (int r : Edges.ODD) {
            boolean is = r >= 0 && r < 6;
            Edges.due("6 room " + r, Math.min(x.room(r), 0), is ? 0 : Edges.UNKNOWN);
        }
    }

    private static void roomJoinedToAllOrNone() {
        TrayLands x = Edges.made(Edges.FULL_HOUSE);
        Edges.due("6 to all others", x.room(0), 254);
        Edges.due("6 the last, by the least bit", x.room(7), 1);
        Edges.due("6 the last but one", x.room(6), 33);
        Edges.due("6 to none", Edges.made("h8 0;p0 1;").room(7), 0);
        Edges.due("6 by the greatest bit", Edges.made("h8 0;p7 0;").room(0), 128);
    }

    private static void waitersFrom0() {
        TrayLands x = Edges.made(Edges.HOUSE);
        for (int w : Edges.ODD) {
            boolean is = w >= 0 && w < 3;
            Edges.due("7 waiter " + w, Math.min(x.waiter(w, 1), 0), is ? 0 : Edges.UNKNOWN);
        }
        Edges.due("7 the fourth of four", Edges.made(Edges.FULL_HOUSE).waiter(3, 0), 7);
        Edges.due("7 a fifth of four", Edges.made(Edges.FULL_HOUSE).waiter(4, 0), Edges.UNKNOWN);
        Edges.due("7 none", Edges.made("h1 0;").waiter(0, 0), Edges.UNKNOWN);
    }

    private static void waiterWhatFrom0To7() {
        TrayLands x = Edges.made(Edges.HOUSE);
        for (int what : Edges.ODD) {
            boolean is = what >= 0 && what <= 7;
            Edges.due("7 what " + what, Math.min(x.waiter(0, what), 0), is ? 0 : Edges.OUTSIDE);
        }
    }

    private static void thingsFrom0() {
        TrayLands x = Edges.made(Edges.HOUSE);
        for (int t : Edges.ODD) {
            boolean is = t >= 0 && t < 5;
            Edges.due("8 thing " + t, Math.min(x.thing(t, 0), 0), is ? 0 : Edges.UNKNOWN);
        }
        Edges.due("8 the eighth of eight", Edges.made(Edges.FULL_HOUSE).thing(7, 0), 1);
        Edges.due("8 a ninth of eight", Edges.made(Edges.FULL_HOUSE).thing(8, 0), Edges.UNKNOWN);
    }

    private static void thingWhatFrom0To2() {
        TrayLands x = Edges.made(Edges.HOUSE);
        for (int what : Edges.ODD) {
            boolean is = what >= 0 && what <= 2;
            Edges.due("8 what " + what, Math.min(x.thing(0, what), Edges.NONE), is ? Edges.NONE : Edges.OUTSIDE);
        }
    }

    private static void noRouteAtFirst() {
        TrayLands x = Edges.made(THREE);
        for (int w = 0; w < 3; w++) {
            Edges.due("2 no route", x.waiter(w, 6), 0);
        }
        x.minute(60);
        for (int w = 0; w < 3; w++) {
            Edges.due("2 none goes", x.waiter(w, 0), w);
        }
    }

    private static void minuteFrom1To60() {
        TrayLands x = Edges.made(THREE);
        Edges.due("9 one", x.minute(1), 1);
        Edges.due("9 sixty", x.minute(60), 61);
        for (int n : Edges.ODD) {
            if (n < 1 || n > 60) {
                Edges.due("9 minutes " + n, x.minute(n), Edges.OUTSIDE);
            }
        }
        Edges.due("9 sixty-one", x.minute(61), Edges.OUTSIDE);
        Edges.due("9 none of these passed", x.told(6), 61);
        Edges.due("9 no hotel", new TrayLands().minute(60), Edges.NOT);
    }

    /** An object whose minutes are 9000. */
    private static TrayLands late() {
        TrayLands x = Edges.made("h1 0;w0 1;");
        for (int k = 0; k < 150; k++) {
            x.minute(60);
        }
        return x;
    }

    private static void minutesAbove9000AreFull() {
        TrayLands x = late();
        Edges.due("9 at 9000", x.told(6), 9000);
        Edges.due("9 it goes on", x.minute(1), 9001);
        Edges.due("9 above", x.minute(1), Edges.FULL);
        Edges.due("9 above, many", x.minute(60), Edges.FULL);
        Edges.due("9 as it was", x.told(6), 9001);
        x.undo();
        Edges.due("9 undone it goes again", x.minute(60), 9060);
        Edges.due("9 far above", x.minute(1), Edges.FULL);
        x.undo();
        x.undo();
        x.minute(59);
        Edges.due("9 at 8999, to 9059", x.minute(60), 9059);
    }

    private static void driftAbove9000IsFull() {
        TrayLands x = late();
        Edges.due("14 at 9000 it goes on", x.drift(1), 0);
        Edges.due("14 to 9001", x.told(6), 9001);
        Edges.due("14 above", x.drift(1), Edges.FULL);
        Edges.due("14 above, many", x.drift(60), Edges.FULL);
        x.undo();
        Edges.due("14 undone it goes again", x.drift(60), 0);
        Edges.due("14 to 9060", x.told(6), 9060);
        Edges.due("14 and minute() is full", x.minute(1), Edges.FULL);
    }

    private static void oneRoomAMinute() {
        TrayLands x = Edges.made("h8 0;p0 1;p1 2;p2 3;p3 4;p4 5;p5 6;p6 7;w0 9;");
        x.route(0, 234567878);
        int[] rooms = {1, 2, 3, 4, 5, 6, 7, 6, 7, 7};
        for (int k = 0; k < rooms.length; k++) {
            x.minute(1);
            Edges.due("2 minute " + (k + 1), x.waiter(0, 0), rooms[k]);
            Edges.due("2 rooms yet", x.waiter(0, 6), Math.max(8 - k, 0));
        }
    }

    private static void meetIfOneAtLeastWent() {
        TrayLands x = Edges.made("h2 0;p0 1;w0 9;w0 9;w1 9;");
        x.minute(60);
        Edges.due("2 none went", x.told(7), 0);
        x.route(2, 1);
        x.minute(1);
        Edges.due("2 one went, to two that stay: these do not meet each other", x.told(7), 2);
        x.minute(1);
        Edges.due("2 then none went", x.told(7), 2);
    }

    private static void meetInOneRoom() {
        TrayLands x = Edges.made("h3 0;p0 1;p1 2;w0 9;w2 9;");
        x.route(0, 2);
        x.route(1, 2);
        x.minute(1);
        Edges.due("2 both come", x.told(7), 1);
        x.route(0, 3);
        x.route(1, 3);
        x.minute(1);
        Edges.due("2 both go from one room to one room", x.told(7), 2);
    }

    private static void meetByChangingRooms() {
        TrayLands x = Edges.made("h4 0;p0 1;p1 2;p2 0;p2 3;w0 9;w1 9;w2 9;");
        x.route(0, 2);
        x.route(1, 1);
        x.minute(1);
        Edges.due("2 they change", x.told(7), 1);
        x.undo();
        x.route(1, 3);
        x.route(2, 1);
        x.minute(1);
        Edges.due("2 three in a ring change with none", x.told(7), 0);
    }

    private static void notByFollowingOrParting() {
        TrayLands x = Edges.made("h3 0;p0 1;p1 2;w0 9;w1 9;");
        x.route(0, 2);
        x.route(1, 3);
        x.minute(1);
        Edges.due("2 one follows", x.told(7), 0);
        TrayLands y = Edges.made("h3 0;p0 1;p1 2;w1 9;w1 9;");
        y.route(0, 1);
        y.route(1, 3);
        y.minute(1);
        Edges.due("2 they part", y.told(7), 0);
        y.route(0, 2);
        y.minute(1);
        y.route(0, 1);
        y.minute(1);
        Edges.due("2 one leaves an empty room", y.told(7), 0);
    }

    private static void meetingsArePairs() {
        TrayLands x = Edges.made("h5 0;p0 4;p1 4;p2 4;p3 4;w0 9;w1 9;w2 9;w3 9;");
        for (int w = 0; w < 4; w++) {
            x.route(w, 5);
        }
        x.minute(1);
        Edges.due("2 six pairs of four", x.told(7), 6);
        x.treaty(0, 1, true);
        x.undo();
        x.undo();
        x.treaty(0, 1, true);
        x.minute(1);
        Edges.due("2 a treaty's pair meets too", x.told(7), 6);
    }

    /** Waiter 0 comes to waiter 1, who has things of these weights on the left and on the right. */
    private static int spiltBy(int e, int left, int right) {
        TrayLands x = Edges.made("h2 " + e + ";p0 1;w0 99;w1 999;t" + left + " 1;t" + right + " 1;");
        x.lay(0, 1, 0);
        x.lay(1, 1, 1);
        x.route(0, 2);
        x.minute(1);
        return x.told(8);
    }

    private static void evenByEOrLess() {
        Edges.due("2 differs by E", spiltBy(5, 15, 10), 0);
        Edges.due("2 by E to the right", spiltBy(5, 10, 15), 0);
        Edges.due("2 by 1 more", spiltBy(5, 16, 10), 1);
        Edges.due("2 by 1 more to the right", spiltBy(5, 10, 16), 2);
        Edges.due("2 E 0, no difference", spiltBy(0, 10, 10), 0);
        Edges.due("2 E 0, by 1", spiltBy(0, 10, 11), 2);
        TrayLands one = Edges.made("h2 0;p0 1;w0 1;w1 1;t1 1;t1 1;");
        one.lay(0, 0, 0);
        one.lay(1, 1, 1);
        one.route(0, 2);
        one.minute(1);
        Edges.due("2 E 0, the lightest on either side", one.told(8), 3);
        Edges.due("2 E 98, by 98", spiltBy(98, 99, 1), 0);
        Edges.due("2 E 97, by 98", spiltBy(97, 99, 1), 1);
        TrayLands x = Edges.made("h2 99;p0 1;w0 99;w1 999;t99 1;t1 1;");
        x.lay(0, 1, 0);
        x.route(0, 21);
        x.minute(2);
        Edges.due("2 E 99, by 99", x.told(8), 0);
        x.lay(1, 1, 0);
        x.route(0, 2);
        x.minute(1);
        Edges.due("2 E 99, by 100", x.told(8), 1);
    }

    private static void evenAheadOfTheMinute() {
        TrayLands x = Edges.made("h2 0;p0 1;w0 99;w1 99;t3 1;t5 1;");
        x.lay(0, 0, 0);
        x.lay(1, 1, 0);
        x.route(0, 2);
        x.route(1, 1);
        x.minute(1);
        Edges.due("2 both spill in one minute, neither ahead of the other", x.told(8), 3);
        TrayLands y = Edges.made("h2 1;p0 1;w0 99;w1 99;t3 1;t5 1;");
        y.lay(0, 1, 0);
        y.lay(1, 1, 1);
        y.route(0, 212);
        y.minute(1);
        Edges.due("2 not even: the heavier goes", y.told(8), 2);
        y.minute(1);
        Edges.due("2 parting", y.told(8), 2);
        y.minute(1);
        Edges.due("2 what is left was not even either", y.told(8), 3);
    }

    private static void evenByNothing() {
        TrayLands x = Edges.made("h2 0;p0 1;w0 9;w1 9;t1 1;");
        x.route(0, 2);
        x.minute(1);
        Edges.due("2 an empty tray is even", x.told(8), 0);
        Edges.due("2 they met", x.told(7), 1);
    }

    private static void heaviestOfLikeOnesTheLeast() {
        TrayLands x = Edges.made("h2 0;p0 1;w0 9;w1 99;t6 1;t7 1;t7 1;t7 1;t5 1;");
        for (int t = 4; t >= 0; t--) {
            x.lay(t, 1, t == 2 ? 0 : 1);
        }
        int[] spilt = {2, 6, 14, 15, 31};
        for (int k = 0; k < spilt.length; k++) {
            x.route(0, 2);
            x.minute(1);
            Edges.due("2 the heaviest, of both sides: " + k, x.told(8), spilt[k]);
            x.route(0, 1);
            x.minute(1);
        }
        Edges.due("2 parting spills nothing", x.told(8), 31);
    }

    private static void oneAMinuteAtMost() {
        TrayLands x = Edges.made(THREE);
        x.lay(1, 1, 0);
        x.lay(2, 1, 0);
        x.route(0, 2);
        x.route(2, 2);
        x.minute(1);
        Edges.due("2 he met two", x.told(7), 3);
        Edges.due("2 and spilt one", x.told(8), 2);
        x.route(0, 12);
        x.minute(2);
        Edges.due("2 the next in another minute", x.told(8), 6);
    }

    private static void treatyWithOneOfTwo() {
        TrayLands x = Edges.made(THREE);
        x.lay(1, 1, 0);
        x.lay(2, 0, 0);
        x.treaty(0, 1, true);
        x.treaty(0, 2, true);
        x.route(0, 2);
        x.minute(1);
        Edges.due("2 with a treaty none spills", x.told(8), 0);
        x.route(2, 2);
        x.minute(1);
        Edges.due("2 he without one spills", x.told(8), 2);
        x.undo();
        x.treaty(1, 2, true);
        x.minute(1);
        Edges.due("2 with all of them", x.told(8), 0);
    }

    private static void spiltForGood() {
        TrayLands x = Edges.made(THREE);
        x.lay(1, 1, 0);
        x.route(0, 2);
        x.minute(1);
        Edges.due("2 spilt", x.told(8), 2);
        Edges.due("2 not in the pantry", x.told(9), 13);
        Edges.due("2 on no tray", x.thing(1, 2), Edges.NONE);
        Edges.due("2 its worth", x.told(10), 2);
        Edges.due("11 laid no more", x.lay(1, 1, 0), Edges.NOT);
        Edges.due("12 taken off no more", x.takeOff(1), Edges.NOT);
        x.minute(60);
        Edges.due("2 still", x.told(8), 2);
    }

    private static void routeOfNoneToNine() {
        TrayLands x = Edges.made("h8 0;p0 7;p7 6;w0 9;");
        Edges.due("10 one", x.route(0, 8), 1);
        Edges.due("10 nine", x.route(0, 818181818), 9);
        Edges.due("10 nine are kept", x.waiter(0, 6), 9);
        int rooms = 0;
        for (int n = 1; n <= 9; n++) {
            rooms = rooms * 10 + (n % 2 == 1 ? 8 : 1);
            Edges.due("10 route " + rooms, x.route(0, rooms), n);
            Edges.due("10 is kept", x.waiter(0, 6), n);
        }
        Edges.due("10 none", x.route(0, 0), 0);
        Edges.due("10 none are kept", x.waiter(0, 6), 0);
        for (int odd : new int[] {-1, -8, Edges.LOWEST, 1000000000, 1818181818, Edges.HIGHEST}) {
            Edges.due("10 below 0, or ten figures: " + odd, x.route(0, odd), Edges.OUTSIDE);
        }
        Edges.due("10 the most of nine figures has no such rooms", x.route(0, 999999999), Edges.OUTSIDE);
    }

    private static void routeFiguresOfRooms() {
        TrayLands x = Edges.made("h8 0;p0 7;w0 9;");
        Edges.due("10 figure 8 of eight rooms", x.route(0, 8), 1);
        Edges.due("10 figure 9", x.route(0, 9), Edges.OUTSIDE);
        Edges.due("10 figure 9 later", x.route(0, 89), Edges.OUTSIDE);
        Edges.due("10 figure 0 last", x.route(0, 80), Edges.OUTSIDE);
        Edges.due("10 figure 0 within", x.route(0, 808), Edges.OUTSIDE);
        Edges.due("10 figure 0 eighth of nine", x.route(0, 818181801), Edges.OUTSIDE);
        Edges.due("10 figure 9 first of nine", x.route(0, 918181818), Edges.OUTSIDE);
        TrayLands y = Edges.made("h3 0;p0 1;p1 2;w1 9;");
        Edges.due("10 figure 1 of three rooms", y.route(0, 1), 1);
        Edges.due("10 figure 3", y.route(0, 3), 1);
        Edges.due("10 figure 4", y.route(0, 4), Edges.OUTSIDE);
    }

    private static void routeJoined() {
        TrayLands x = Edges.made("h4 0;p0 1;p1 2;w0 9;");
        Edges.due("10 the first is not joined", x.route(0, 3), Edges.NOT);
        Edges.due("10 the first is where he is", x.route(0, 1), Edges.NOT);
        Edges.due("10 the second is not joined", x.route(0, 24), Edges.NOT);
        Edges.due("10 the second is the first", x.route(0, 22), Edges.NOT);
        Edges.due("10 the ninth is not joined", x.route(0, 212121213), Edges.NOT);
        Edges.due("10 the ninth is joined", x.route(0, 232323232), 9);
        x.minute(2);
        Edges.due("10 where he is now counts", x.route(0, 2), 1);
        Edges.due("10 not where he will be", x.route(0, 1), Edges.NOT);
    }

    private static void laidUpToC() {
        TrayLands x = Edges.made("h1 0;w0 30;w0 1;t29 1;t1 1;t1 1;t2 1;");
        Edges.due("11 below C", x.lay(0, 0, 0), 29);
        Edges.due("11 1 above C", x.lay(3, 0, 1), Edges.NOT);
        Edges.due("11 C", x.lay(1, 0, 1), 30);
        Edges.due("11 nothing more", x.lay(2, 0, 1), Edges.NOT);
        Edges.due("11 C 1, two", x.lay(3, 1, 0), Edges.NOT);
        Edges.due("11 C 1, one", x.lay(2, 1, 0), 1);
    }

    private static void laidAllEight() {
        String eight = "t99 1;".repeat(8);
        TrayLands x = Edges.made("h1 0;w0 792;w0 791;" + eight);
        for (int t = 0; t < 8; t++) {
            Edges.due("11 thing " + t, x.lay(t, 0, t % 2), 99 * (t + 1));
        }
        Edges.due("11 the left", x.waiter(0, 2), 85);
        Edges.due("11 the right", x.waiter(0, 3), 170);
        Edges.due("11 the pantry is empty", x.told(9), 0);
        for (int t = 0; t < 8; t++) {
            Edges.due("11 to the other " + t, x.lay(t, 1, 0), t < 7 ? 99 * (t + 1) : Edges.NOT);
        }
        Edges.due("11 the last stayed", x.thing(7, 2), 0);
    }

    private static void laidFromAnotherTray() {
        TrayLands x = Edges.made("h2 0;p0 1;w0 99;w0 99;w1 99;t5 1;");
        x.lay(0, 0, 0);
        Edges.due("11 in another room", x.lay(0, 2, 0), Edges.NOT);
        Edges.due("11 in the same room", x.lay(0, 1, 1), 5);
        Edges.due("11 it left the one", x.waiter(0, 4), 0);
        Edges.due("11 it is the other's", x.thing(0, 2), 1);
        Edges.due("11 on the right", x.waiter(1, 3), 1);
        x.route(2, 1);
        x.minute(1);
        Edges.due("11 in the same room now", x.lay(0, 2, 0), Edges.NOT);
        Edges.due("11 for it was spilt", x.told(8), 1);
        x.undo();
        x.treaty(1, 2, true);
        x.minute(1);
        Edges.due("11 with a treaty it is at hand", x.lay(0, 2, 0), 5);
    }

    private static void laidOnSide0Or1() {
        TrayLands x = Edges.made("h1 0;w0 99;t5 1;t6 1;");
        for (int side : Edges.ODD) {
            if (side != 0 && side != 1) {
                Edges.due("11 side " + side, x.lay(0, 0, side), Edges.OUTSIDE);
            }
        }
        Edges.due("11 side 0", x.lay(0, 0, 0), 5);
        Edges.due("11 side 1", x.lay(1, 0, 1), 11);
        Edges.due("11 left", x.waiter(0, 2), 1);
        Edges.due("11 right", x.waiter(0, 3), 2);
    }

    private static void laidNot() {
        TrayLands x = Edges.made("h2 9;p0 1;w0 50;w0 20;w1 99;t20 1;t30 1;t1 1;t21 1;");
        Edges.due("11 too heavy for an empty tray", x.lay(3, 1, 0), Edges.NOT);
        x.lay(0, 0, 0);
        Edges.due("11 on his tray, the same side", x.lay(0, 0, 0), Edges.NOT);
        Edges.due("11 on his tray, the other side", x.lay(0, 0, 1), Edges.NOT);
        x.lay(1, 0, 1);
        Edges.due("11 on his tray, which is full", x.lay(1, 0, 0), Edges.NOT);
        Edges.due("11 too heavy from another tray", x.lay(1, 1, 0), Edges.NOT);
        Edges.due("11 just enough from another tray", x.lay(0, 1, 0), 20);
        Edges.due("11 on that of one in another room", x.lay(0, 2, 0), Edges.NOT);
        Edges.due("11 nothing of this was kept", x.told(13), 3);
    }

    private static void takenOff() {
        TrayLands x = Edges.made(Edges.FULL_HOUSE);
        Edges.due("12 in the pantry", x.takeOff(0), Edges.NOT);
        for (int t : Edges.ODD) {
            boolean is = t >= 0 && t < 8;
            Edges.due("12 thing " + t, x.takeOff(t), is ? Edges.NOT : Edges.UNKNOWN);
        }
        x.lay(7, 3, 1);
        Edges.due("12 the last thing of the last waiter", x.takeOff(7), 3);
        Edges.due("12 again", x.takeOff(7), Edges.NOT);
        x.lay(0, 0, 0);
        Edges.due("12 the first of the first", x.takeOff(0), 0);
        Edges.due("12 all in the pantry", x.told(9), 255);
    }

    private static void treatyOfTwo() {
        TrayLands x = Edges.made(Edges.FULL_HOUSE);
        for (int w = 0; w < 4; w++) {
            Edges.due("13 with himself", x.treaty(w, w, true), Edges.UNKNOWN);
            Edges.due("13 none with himself", x.treaty(w, w, false), Edges.UNKNOWN);
        }
        Edges.due("13 none to end", x.treaty(0, 3, false), 0);
        Edges.due("13 made", x.treaty(0, 3, true), 0);
        Edges.due("13 there is one", x.treaty(3, 0, true), 1);
        Edges.due("13 of the one", x.waiter(0, 7), 8);
        Edges.due("13 of the other", x.waiter(3, 7), 1);
        x.treaty(1, 3, true);
        x.treaty(3, 2, true);
        Edges.due("13 with all", x.waiter(3, 7), 7);
        Edges.due("13 ended", x.treaty(3, 0, false), 1);
        Edges.due("13 the rest stay", x.waiter(3, 7), 6);
        Edges.due("13 none for the other", x.waiter(0, 7), 0);
    }

    private static void driftFrom1To60() {
        TrayLands x = Edges.made("h1 0;w0 1;");
        Edges.due("14 one", x.drift(1), 0);
        Edges.due("14 sixty", x.drift(60), 0);
        Edges.due("14 sixty-one", x.drift(61), Edges.OUTSIDE);
        for (int n : Edges.ODD) {
            if (n < 1 || n > 60) {
                Edges.due("14 minutes " + n, x.drift(n), Edges.OUTSIDE);
            }
        }
        Edges.due("14 none of these passed", x.told(6), 61);
        Edges.due("14 no hotel", new TrayLands().drift(60), Edges.NOT);
    }

    private static void driftDraws() {
        TrayLands none = Edges.made("h2 0;p0 1;");
        none.seed(7);
        none.drift(60);
        Edges.due("14 no waiters, no draw", none.seed(0), 7);
        TrayLands shut = Edges.made("h2 0;w0 1;");
        shut.drift(1);
        Edges.due("14 no passage, one draw", shut.seed(0), 12345);
        TrayLands free = Edges.made("h2 0;p0 1;w0 1;");
        free.drift(1);
        Edges.due("14 one passage, two draws", free.seed(0), 1406932606);
        Edges.due("14 and he went", free.waiter(0, 0), 1);
        free.route(0, 12);
        free.drift(1);
        Edges.due("14 a route of two, one draw", free.seed(0), 12345);
        Edges.due("14 he went it", free.waiter(0, 0), 0);
        free.drift(1);
        Edges.due("14 a route of one, one draw", free.seed(0), 12345);
        Edges.due("14 he has gone it", free.waiter(0, 6), 0);
    }

    private static void driftTellsAllMeetings() {
        TrayLands x = Edges.made("h2 0;p0 1;w0 9;w1 9;");
        x.route(0, 2);
        x.minute(1);
        Edges.due("14 one meeting ahead", x.told(7), 1);
        int all = x.drift(1);
        Edges.due("14 all meetings, not those of the draws alone", all, x.told(7));
        Edges.due("14 he parted from the other", all, 1);
    }

    private static void undoneNoneAtFirst() {
        TrayLands x = Edges.made(Edges.HOUSE);
        Edges.due("15 none", x.undo(), Edges.NOT);
        x.minute(1);
        Edges.due("15 one", x.undo(), 0);
        Edges.due("15 none again", x.undo(), Edges.NOT);
        Edges.due("15 an undo is not undone", x.told(13), 0);
    }

    private static void undoneEachOfSix() {
        TrayLands x = Edges.made(Edges.HOUSE);
        x.lay(0, 0, 1);
        x.treaty(0, 1, true);
        x.route(0, 23);
        x.minute(1);
        x.takeOff(0);
        x.drift(1);
        Edges.due("15 six", x.told(13), 6);
        Edges.due("15 drift", x.undo(), 5);
        Edges.due("15 the minute of drift", x.told(6), 1);
        Edges.due("15 takeOff", x.undo(), 4);
        Edges.due("15 on the right again", x.waiter(0, 3), 1);
        Edges.due("15 minute", x.undo(), 3);
        Edges.due("15 no minute", x.told(6), 0);
        Edges.due("15 the route is whole", x.where(0, 2), 2);
        Edges.due("15 route", x.undo(), 2);
        Edges.due("15 no route", x.waiter(0, 6), 0);
        Edges.due("15 treaty", x.undo(), 1);
        Edges.due("15 no treaty of the one", x.waiter(0, 7), 0);
        Edges.due("15 nor of the other", x.waiter(1, 7), 0);
        Edges.due("15 lay", x.undo(), 0);
        Edges.due("15 in the pantry", x.told(9), 31);
    }

    private static void undoneTwentyAtMost() {
        TrayLands x = Edges.made("h1 0;");
        for (int k = 1; k <= 20; k++) {
            x.minute(1);
            Edges.due("15 can be undone", x.told(13), k);
        }
        x.minute(1);
        Edges.due("15 twenty of twenty-one", x.told(13), 20);
        for (int k = 19; k >= 0; k--) {
            Edges.due("15 how many more", x.undo(), k);
            Edges.due("15 minutes", x.told(6), k + 1);
        }
        Edges.due("15 the oldest is lost", x.undo(), Edges.NOT);
        Edges.due("15 minute 1 stays", x.told(6), 1);
    }

    private static void undoneAcrossTheTwentieth() {
        TrayLands x = Edges.made("h1 0;");
        for (int k = 0; k < 20; k++) {
            x.minute(1);
        }
        for (int k = 19; k >= 15; k--) {
            Edges.due("15 five of twenty", x.undo(), k);
        }
        for (int k = 16; k <= 20; k++) {
            x.minute(2);
            Edges.due("15 five anew", x.told(13), k);
        }
        Edges.due("15 fifteen and ten minutes", x.told(6), 25);
        for (int k = 19; k >= 0; k--) {
            x.undo();
            Edges.due("15 back", x.told(6), k > 15 ? 15 + 2 * (k - 15) : k);
        }
        Edges.due("15 all twenty were there", x.undo(), Edges.NOT);
        for (int k = 0; k < 45; k++) {
            x.minute(1);
        }
        for (int k = 0; k < 20; k++) {
            x.undo();
        }
        Edges.due("15 twenty-five are lost", x.told(6), 25);
        Edges.due("15 no more", x.undo(), Edges.NOT);
    }

    private static void undoneNotWhatWasRefused() {
        TrayLands x = Edges.made(Edges.HOUSE);
        x.minute(0);
        x.drift(61);
        x.route(0, 9);
        x.route(0, 3);
        x.lay(0, 0, 2);
        x.lay(4, 3, 0);
        x.takeOff(0);
        x.treaty(0, 0, true);
        Edges.due("15 refused", x.told(13), 0);
        x.treaty(0, 1, false);
        Edges.due("15 a treaty that was none, not refused", x.told(13), 1);
        x.route(0, 0);
        Edges.due("15 a route of none, not refused", x.told(13), 2);
        Edges.due("15 undone", x.undo(), 1);
        Edges.due("15 undone", x.undo(), 0);
    }

    private static void undoneLeavesTheRest() {
        TrayLands x = Edges.made(Edges.HOUSE);
        x.seed(5);
        x.drift(3);
        int seed = x.seed(0);
        x.seed(seed);
        x.see(0, 1, true);
        x.write(0, 0);
        x.feed('h');
        x.undo();
        Edges.due("15 the seed stays", x.seed(0), seed);
        Edges.due("15 what is seen stays", x.told(11), 1);
        Edges.due("15 the book stays", x.told(12), 1);
        Edges.due("15 the text stays", x.told(5), 1);
        x.minute(1);
        x.keep(0);
        Edges.due("32 none behind keep()", x.undo(), Edges.NOT);
        x.minute(1);
        x.goBack(0);
        Edges.due("33 none behind goBack()", x.undo(), Edges.NOT);
        x.minute(1);
        Edges.due("15 then again", x.undo(), 0);
    }
}
