/** The edges that promises 25 to 33 name: what is seen, the book, the seed, the images. */
public final class SeenEdgeTest {
    /** Eight rooms in a row and a waiter at each end. */
    private static final String ROW = "h8 0;p0 1;p1 2;p2 3;p3 4;p4 5;p5 6;p6 7;w0 9;w7 9;";
    /** Room 0 with a passage to each other room, four waiters in it. */
    private static final String STAR = "h8 0;p0 1;p0 2;p0 3;p0 4;p0 5;p0 6;p0 7;w0 9;w0 9;w0 9;w0 9;";
    private static final int HALF = 1 << 30;

    public static void main(String[] args) {
        seenSixAtMost();
        seenFrom1To20();
        seenRooms();
        spillerOfNothingSeen();
        spillerByThen();
        spillerWhereHeWas();
        spillerOfAllThatIsSeen();
        spillerFromNow();
        lookNone();
        lookGreatestPartIsLeast();
        lookOfLikeOnesTheLeast();
        lookBehind20();
        bookFifteenAtMost();
        bookOfWhatThereIs();
        tornAsMuchAsThereCanBe();
        judgedFirstAndLast();
        judgedNow();
        seedFrom0();
        seedWrapsAround();
        drawOfWaiters();
        drawOfRooms();
        drawOfTheFirstAndLastRoom();
        imagesAreTwo();
        imageNotKept();
        imageKeepsSection2AndTheSeed();
        imageStaysAsItWas();
        imageWithoutAHotel();
        Edges.end();
    }

    private static void seenSixAtMost() {
        TrayLands x = Edges.made(ROW);
        for (int k = 1; k <= 6; k++) {
            Edges.due("25 how much", x.see(0, 1, false), k);
            Edges.due("25 told", x.told(11), k);
        }
        Edges.due("25 the seventh", x.see(0, 1, false), Edges.FULL);
        Edges.due("25 still six", x.told(11), 6);
        x.tear();
        Edges.due("25 again", x.see(0, 1, false), 1);
    }

    private static void seenFrom1To20() {
        TrayLands x = Edges.made(ROW);
        for (int n : Edges.ODD) {
            boolean is = n >= 1 && n <= 20;
            Edges.due("25 minutes " + n, x.see(0, n, true), is ? 1 : Edges.OUTSIDE);
            x.tear();
        }
        Edges.due("25 none", x.see(0, 0, true), Edges.OUTSIDE);
        Edges.due("25 one", x.see(0, 1, true), 1);
        Edges.due("25 twenty", x.see(0, 20, true), 2);
        Edges.due("25 twenty-one", x.see(0, 21, true), Edges.OUTSIDE);
    }

    private static void seenRooms() {
        TrayLands x = Edges.made(Edges.HOUSE);
        for (int r : Edges.ODD) {
            boolean is = r >= 0 && r < 6;
            Edges.due("25 room " + r, x.see(r, 1, true), is ? 1 : Edges.UNKNOWN);
            x.tear();
        }
    }

    private static void spillerOfNothingSeen() {
        Edges.due("26 all four", Edges.made(STAR).spiller(), 15);
        Edges.due("26 no waiters", Edges.made("h1 0;").spiller(), 0);
        TrayLands x = Edges.made("h1 0;");
        x.see(0, 20, false);
        Edges.due("26 none, though it fits", x.spiller(), 0);
    }

    private static void spillerByThen() {
        TrayLands x = Edges.made(ROW);
        x.route(0, 234567878);
        for (int n = 1; n <= 20; n++) {
            x.see(7, n, true);
            Edges.due("26 room 7 is pink behind " + n, x.spiller(), n >= 7 ? 1 : 0);
            x.tear();
            x.see(7, n, false);
            Edges.due("26 room 7 is not pink behind " + n, x.spiller(), n >= 7 ? 2 : 3);
            x.tear();
            x.see(1, n, true);
            Edges.due("26 room 1 stays pink behind " + n, x.spiller(), 1);
            x.tear();
        }
        x.route(0, 212121212);
        x.see(0, 1, true);
        Edges.due("26 room 0, not yet", x.spiller(), 0);
        x.tear();
        x.see(0, 2, true);
        Edges.due("26 room 0, now", x.spiller(), 1);
        x.route(1, 787878765);
        x.tear();
        x.see(4, 8, false);
        Edges.due("26 the ninth room, not yet", x.spiller(), 3);
        x.see(4, 9, true);
        Edges.due("26 the ninth room", x.spiller(), 2);
    }

    private static void spillerWhereHeWas() {
        TrayLands x = Edges.made(ROW);
        x.see(0, 20, true);
        Edges.due("26 he came to no room", x.spiller(), 0);
        x.route(0, 2);
        Edges.due("26 he left it", x.spiller(), 0);
        x.route(0, 21);
        Edges.due("26 he came back", x.spiller(), 1);
    }

    private static void spillerOfAllThatIsSeen() {
        TrayLands x = Edges.made(STAR);
        for (int w = 0; w < 4; w++) {
            x.route(w, 2 + w);
        }
        x.see(1, 20, false);
        Edges.due("26 not the first", x.spiller(), 14);
        x.see(2, 20, false);
        Edges.due("26 nor the second", x.spiller(), 12);
        x.see(7, 20, false);
        x.see(0, 20, false);
        x.see(6, 1, false);
        Edges.due("26 these leave all", x.spiller(), 12);
        x.see(4, 1, true);
        Edges.due("26 the sixth counts too", x.spiller(), 8);
        x.tear();
        x.see(1, 1, true);
        x.see(1, 1, false);
        Edges.due("26 both cannot be", x.spiller(), 0);
    }

    private static void spillerFromNow() {
        TrayLands x = Edges.made(ROW);
        x.route(0, 23);
        x.see(1, 1, true);
        Edges.due("26 he", x.spiller(), 1);
        x.minute(1);
        Edges.due("26 by the routes that there are now", x.spiller(), 0);
        x.undo();
        Edges.due("26 undone", x.spiller(), 1);
    }

    private static void lookNone() {
        Edges.due("27 no hotel", new TrayLands().look(), Edges.NONE);
        Edges.due("27 no waiters", Edges.made("h8 0;p0 1;").look(), Edges.NONE);
        TrayLands x = Edges.made(STAR);
        Edges.due("27 none goes", x.look(), Edges.NONE);
        for (int w = 0; w < 4; w++) {
            x.route(w, 21);
        }
        Edges.due("27 all go alike", x.look(), Edges.NONE);
        x.route(3, 31);
        Edges.due("27 one goes otherwise", x.look(), 1);
        x.see(2, 1, true);
        Edges.due("27 one is left", x.look(), Edges.NONE);
        x.see(2, 2, false);
        Edges.due("27 none is left", x.look(), Edges.NONE);
        Edges.due("27 one waiter", Edges.made("h2 0;p0 1;w0 9;").look(), Edges.NONE);
    }

    private static void lookGreatestPartIsLeast() {
        TrayLands x = Edges.made(STAR);
        x.route(0, 2);
        x.route(1, 3);
        x.route(2, 418);
        x.route(3, 518);
        // Rooms 1 to 4 tell one from three, rooms 0 and 7 tell two from two.
        Edges.due("27 two and two", x.look(), 0);
        x.route(0, 21);
        Edges.due("27 three come to room 0, two to room 7", x.look(), 7);
        x.route(2, 4);
        x.route(3, 5);
        Edges.due("27 one and three", x.look(), 0);
        x.route(0, 2);
        Edges.due("27 one and three, room 0 parts none", x.look(), 1);
    }

    private static void lookOfLikeOnesTheLeast() {
        TrayLands x = Edges.made(STAR);
        x.route(3, 8);
        Edges.due("27 the last room alone", x.look(), 7);
        x.route(3, 817);
        Edges.due("27 the least of three", x.look(), 0);
        x.route(3, 0);
        x.route(2, 7);
        x.route(1, 6);
        Edges.due("27 the least of two", x.look(), 5);
    }

    private static void lookBehind20() {
        TrayLands x = Edges.made(ROW);
        x.route(0, 234567878);
        x.route(1, 765432123);
        // 0 comes to 1 .. 7, 1 to 6 .. 0: rooms 0 and 7 tell them apart, behind seven minutes and more.
        Edges.due("27 by what comes late", x.look(), 0);
        TrayLands y = Edges.made("h8 0;p0 1;p1 2;w0 9;w0 9;");
        y.route(0, 212121212);
        y.route(1, 212121232);
        Edges.due("27 by the eighth room", y.look(), 2);
    }

    private static void bookFifteenAtMost() {
        TrayLands x = Edges.made(ROW);
        for (int k = 1; k <= 15; k++) {
            Edges.due("28 how many", x.write(0, 0), k);
            Edges.due("28 told", x.told(12), k);
        }
        Edges.due("28 the sixteenth", x.write(0, 0), Edges.FULL);
        Edges.due("28 still fifteen", x.told(12), 15);
        x.tear();
        Edges.due("28 again", x.write(0, 0), 1);
    }

    private static void bookOfWhatThereIs() {
        TrayLands x = Edges.made(Edges.HOUSE);
        for (int odd : Edges.ODD) {
            boolean waiter = odd >= 0 && odd < 3;
            Edges.due("28 waiter " + odd, x.write(odd, 0), waiter ? 1 : Edges.UNKNOWN);
            x.tear();
            boolean room = odd >= 0 && odd < 6;
            Edges.due("28 room " + odd, x.write(0, odd), room ? 1 : Edges.UNKNOWN);
            x.tear();
        }
        Edges.due("28 not undone", x.told(13), 0);
    }

    private static void tornAsMuchAsThereCanBe() {
        TrayLands x = Edges.made(ROW);
        Edges.due("29 nothing", x.tear(), 0);
        for (int k = 0; k < 16; k++) {
            x.see(7, 20, true);
            x.write(0, 7);
        }
        Edges.due("29 six and fifteen", x.tear(), 21);
        Edges.due("29 nothing seen", x.told(11), 0);
        Edges.due("29 the book is empty", x.told(12), 0);
        Edges.due("29 again", x.tear(), 0);
        Edges.due("29 all fit", x.spiller(), 3);
        Edges.due("29 nothing is wrong", x.judge(), Edges.NONE);
        x.see(0, 1, true);
        Edges.due("29 one seen", x.tear(), 1);
        x.write(0, 0);
        Edges.due("29 one written", x.tear(), 1);
    }

    private static void judgedFirstAndLast() {
        TrayLands x = Edges.made(ROW);
        Edges.due("30 an empty book", x.judge(), Edges.NONE);
        Edges.due("30 no hotel", new TrayLands().judge(), Edges.NONE);
        for (int k = 0; k < 14; k++) {
            x.write(k % 2, 7 * (k % 2));
        }
        Edges.due("30 none is wrong", x.judge(), Edges.NONE);
        x.write(1, 0);
        Edges.due("30 the fifteenth", x.judge(), 14);
        x.tear();
        x.write(0, 1);
        x.write(0, 2);
        x.write(0, 0);
        Edges.due("30 the first of two", x.judge(), 0);
    }

    private static void judgedNow() {
        TrayLands x = Edges.made(ROW);
        x.write(0, 0);
        x.write(0, 1);
        Edges.due("30 now", x.judge(), 1);
        x.route(0, 2);
        Edges.due("30 a route is not gone yet", x.judge(), 1);
        x.minute(1);
        Edges.due("30 otherwise now", x.judge(), 0);
        x.undo();
        Edges.due("30 undone", x.judge(), 1);
    }

    private static void seedFrom0() {
        TrayLands x = new TrayLands();
        Edges.due("31 0 at first", x.seed(Edges.HIGHEST), 0);
        Edges.due("31 the greatest", x.seed(0), 2147483647);
        Edges.due("31 the least", x.seed(1), 0);
        for (int v : Edges.ODD) {
            if (v < 0) {
                Edges.due("31 seed " + v, x.seed(v), Edges.OUTSIDE);
            }
        }
        Edges.due("31 none of these", x.seed(0), 1);
    }

    private static void seedWrapsAround() {
        int[][] draws = {{0, 12345}, {1, 1103527590}, {Edges.HIGHEST, 1043980748}, {Edges.HIGHEST - 1, 2087949151},
            {HALF, 1073754169}, {2088216195, 0}, {1798410728, 1}, {230538014, Edges.HIGHEST}};
        for (int[] draw : draws) {
            TrayLands x = Edges.made("h1 0;w0 1;");
            x.seed(draw[0]);
            x.drift(1);
            Edges.due("3 a draw from the seed " + draw[0], x.seed(0), draw[1]);
        }
        TrayLands x = Edges.made("h1 0;w0 1;");
        java.math.BigInteger seed = java.math.BigInteger.valueOf(Edges.HIGHEST);
        x.seed(Edges.HIGHEST);
        for (int k = 0; k < 60; k++) {
            seed = seed.multiply(java.math.BigInteger.valueOf(1103515245)).add(java.math.BigInteger.valueOf(12345))
                .mod(java.math.BigInteger.valueOf(2147483648L));
        }
        x.drift(60);
        Edges.due("3 sixty draws", x.seed(0), seed.intValueExact());
    }

    /** Seeds whose next one is at the edges of a draw, which is it / 65536, left over by n. */
    private static void drawOfWaiters() {
        int[][] draws = {{2088216195, 0}, {2032319262, 0}, {1742513795, 1}, {1686616862, 1}, {1396811395, 2},
            {1051108995, 3}, {995212062, 3}, {705406595, 0}, {230538014, 3}};
        for (int[] draw : draws) {
            TrayLands x = Edges.made("h8 0;p0 1;p2 3;p4 5;p6 7;w0 1;w2 1;w4 1;w6 1;");
            x.seed(draw[0]);
            x.drift(1);
            for (int w = 0; w < 4; w++) {
                int there = w == draw[1] ? 2 * w + 1 : 2 * w;
                Edges.due("3 from the seed " + draw[0] + " waiter " + w, x.waiter(w, 0), there);
            }
        }
    }

    private static void drawOfRooms() {
        int[][] draws = {{204577074, 2}, {1167983449, 2}, {571119922, 4}, {1534526297, 4}, {937662770, 7},
            {1304205618, 2}, {801440601, 4}};
        for (int[] draw : draws) {
            // The passages are told falling, the rooms are drawn rising.
            TrayLands x = Edges.made("h8 0;p7 0;p4 0;p2 0;p3 1;w0 1;");
            x.seed(draw[0]);
            x.drift(1);
            Edges.due("3 from the seed " + draw[0] + " the room", x.waiter(0, 0), draw[1]);
        }
    }

    private static void drawOfTheFirstAndLastRoom() {
        int[][] draws = {{204577074, 0}, {571119922, 7}};
        for (int[] draw : draws) {
            TrayLands x = Edges.made("h8 0;p3 7;p3 0;w3 1;");
            x.seed(draw[0]);
            x.drift(1);
            Edges.due("3 of two rooms, from the seed " + draw[0], x.waiter(0, 0), draw[1]);
        }
    }

    private static void imagesAreTwo() {
        TrayLands x = Edges.made(ROW);
        for (int i : Edges.ODD) {
            boolean is = i == 0 || i == 1;
            Edges.due("33 image " + i + " is not kept", x.goBack(i), is ? Edges.NOT : Edges.UNKNOWN);
        }
        for (int i : Edges.ODD) {
            boolean is = i == 0 || i == 1;
            Edges.due("32 image " + i, x.keep(i), is ? 1 : Edges.UNKNOWN);
        }
        for (int i : Edges.ODD) {
            boolean is = i == 0 || i == 1;
            Edges.due("33 image " + i, x.goBack(i), is ? 1 : Edges.UNKNOWN);
        }
    }

    private static void imageNotKept() {
        TrayLands x = Edges.made(ROW);
        Edges.due("33 neither", x.goBack(0), Edges.NOT);
        x.keep(1);
        Edges.due("33 not the other", x.goBack(0), Edges.NOT);
        Edges.due("33 the one", x.goBack(1), 1);
        x.feed('x');
        x.hotel();
        Edges.due("33 still, by a fault", x.goBack(1), 1);
        Edges.feedAll(x, ROW);
        x.hotel();
        Edges.due("33 gone with the hotel", x.goBack(1), Edges.NOT);
    }

    private static void imageKeepsSection2AndTheSeed() {
        TrayLands x = Edges.made(Edges.HOUSE);
        x.seed(42);
        x.lay(4, 1, 1);
        x.lay(0, 0, 0);
        x.treaty(0, 2, true);
        x.route(0, 23);
        x.route(1, 3);
        x.minute(1);
        x.keep(0);
        x.see(0, 1, true);
        x.write(0, 0);
        x.lay(1, 2, 0);
        x.takeOff(0);
        x.treaty(0, 2, false);
        x.drift(9);
        x.seed(1);
        Edges.due("33 back", x.goBack(0), 1);
        Edges.due("33 minutes", x.told(6), 1);
        Edges.due("33 meetings", x.told(7), 1);
        Edges.due("33 spilt", x.told(8), 16);
        Edges.due("33 the pantry", x.told(9), 14);
        Edges.due("33 rooms", x.waiter(0, 0), 1);
        Edges.due("33 the rest of a route", x.where(0, 1), 2);
        Edges.due("33 trays", x.waiter(0, 2), 1);
        Edges.due("33 treaties", x.waiter(2, 7), 1);
        Edges.due("33 the seed", x.seed(0), 42);
        Edges.due("33 what is seen is not of section 2", x.told(11), 1);
        Edges.due("33 nor is the book", x.told(12), 1);
        Edges.due("33 nothing can be undone", x.told(13), 0);
    }

    private static void imageStaysAsItWas() {
        TrayLands x = Edges.made(ROW);
        x.minute(1);
        x.keep(0);
        x.minute(2);
        x.keep(1);
        x.minute(4);
        x.goBack(0);
        Edges.due("33 image 0", x.told(6), 1);
        x.minute(8);
        x.goBack(1);
        Edges.due("33 image 1", x.told(6), 3);
        x.minute(16);
        x.goBack(0);
        Edges.due("33 image 0 again", x.told(6), 1);
        x.minute(32);
        x.keep(0);
        x.undo();
        x.goBack(1);
        x.goBack(0);
        Edges.due("32 the later over the earlier", x.told(6), 33);
    }

    private static void imageWithoutAHotel() {
        TrayLands x = new TrayLands();
        x.seed(9);
        Edges.due("32 no hotel", x.keep(0), 1);
        x.seed(10);
        Edges.due("33 no hotel", x.goBack(0), 1);
        Edges.due("33 the seed", x.seed(0), 9);
        Edges.due("33 still no hotel", x.minute(1), Edges.NOT);
    }
}
