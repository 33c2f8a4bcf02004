/** The edges that section 1 and promises 1 to 5 name: the text, its bounds and its faults. */
public final class TextEdgeTest {
    private static final String TWELVE = "p0 1;p0 2;p0 3;p0 4;p0 5;p0 6;p0 7;p1 2;p1 3;p1 4;p1 5;p1 6;";

    public static void main(String[] args) {
        newObjectHasNoHotel();
        feedTakesLettersFrom0To255();
        textHas240LettersAtMost();
        textOf240LettersIsReadToItsEnd();
        everyLetterWhereAClauseBegins();
        everyLetterWhereANumberBegins();
        everyLetterWhereAClauseEnds();
        roomsFrom1To8();
        evenFrom0To99();
        hFirst();
        hOnce();
        passagesTwelveAtMost();
        passagesBetweenUnlikeRooms();
        noTwoPassagesBetweenTheSame();
        passagesBetweenRoomsThatThereAre();
        waitersFourAtMost();
        waitersBounds();
        thingsEightAtMost();
        thingsBounds();
        ordersFourAtMost();
        ordersBounds();
        countsAreApart();
        numbersOfOneToThreeFigures();
        wordsOfOneLetter();
        blanksAnywhereButWithinNumbers();
        twoNumbersNeedABlank();
        faultAtTheEndIsAtTheLength();
        firstLetterThatHasAFault();
        ofOneLetterTheLeastFault();
        emptyText();
        textIsEmptyThen();
        faultLeavesAllElse();
        hotelBeginsAnew();
        noHotelBeginsAnew();
        faultOfTheLatest();
        toldFrom0To13();
        toldOfTheFullHouse();
        Edges.end();
    }

    private static void newObjectHasNoHotel() {
        TrayLands x = new TrayLands();
        for (int what = 0; what <= 13; what++) {
            Edges.due("1 told " + what, x.told(what), 0);
        }
        Edges.due("1 fault", x.fault(), Edges.NONE);
        Edges.due("1 room", x.room(0), Edges.UNKNOWN);
        Edges.due("1 waiter", x.waiter(0, 0), Edges.UNKNOWN);
        Edges.due("1 thing", x.thing(0, 0), Edges.UNKNOWN);
        Edges.due("1 minute", x.minute(1), Edges.NOT);
        Edges.due("1 route", x.route(0, 0), Edges.UNKNOWN);
        Edges.due("1 lay", x.lay(0, 0, 0), Edges.UNKNOWN);
        Edges.due("1 takeOff", x.takeOff(0), Edges.UNKNOWN);
        Edges.due("1 treaty", x.treaty(0, 1, true), Edges.UNKNOWN);
        Edges.due("1 drift", x.drift(1), Edges.NOT);
        Edges.due("1 undo", x.undo(), Edges.NOT);
        Edges.due("1 where", x.where(0, 0), Edges.UNKNOWN);
        Edges.due("1 meets", x.meets(0, 1), Edges.UNKNOWN);
        Edges.due("1 way", x.way(0, 0, 0), Edges.UNKNOWN);
        Edges.due("1 delays, minutes", x.delays(Edges.NONE), 0);
        Edges.due("1 delays", x.delays(0), Edges.UNKNOWN);
        Edges.due("1 served, how many", x.served(Edges.NONE), 0);
        Edges.due("1 served", x.served(0), Edges.UNKNOWN);
        Edges.due("1 evened", x.evened(0, 0), Edges.UNKNOWN);
        Edges.due("1 packed", x.packed(0, 0), Edges.UNKNOWN);
        Edges.due("1 covered", x.covered(0, 0), Edges.UNKNOWN);
        Edges.due("1 calm", x.calm(1, 1), 990000000);
        Edges.due("1 see", x.see(0, 1, true), Edges.UNKNOWN);
        Edges.due("1 spiller", x.spiller(), 0);
        Edges.due("1 look", x.look(), Edges.NONE);
        Edges.due("1 write", x.write(0, 0), Edges.UNKNOWN);
        Edges.due("1 tear", x.tear(), 0);
        Edges.due("1 judge", x.judge(), Edges.NONE);
        Edges.due("1 goBack", x.goBack(0), Edges.NOT);
        Edges.due("1 seed", x.seed(0), 0);
    }

    private static void feedTakesLettersFrom0To255() {
        TrayLands x = new TrayLands();
        Edges.due("2 letter 0", x.feed(0), 1);
        Edges.due("2 letter 255", x.feed(255), 2);
        for (int odd : Edges.ODD) {
            if (odd < 0 || odd > 255) {
                Edges.due("2 letter " + odd, x.feed(odd), Edges.OUTSIDE);
            }
        }
        Edges.due("2 only letters are counted", x.told(5), 2);
    }

    private static void textHas240LettersAtMost() {
        TrayLands x = new TrayLands();
        for (int n = 1; n <= 240; n++) {
            Edges.due("2 letter " + n, x.feed('h'), n);
        }
        Edges.due("2 the 241st", x.feed('h'), Edges.FULL);
        Edges.due("2 still 240", x.told(5), 240);
        x.hotel();
        Edges.due("2 the next text begins", x.feed('h'), 1);
        Edges.due("2 and goes on", x.feed('h'), 2);
    }

    private static void textOf240LettersIsReadToItsEnd() {
        String gap = " ".repeat(230);
        Edges.read("1 a clause that ends as the 240th letter", "h1 0;" + gap + "w0 9;", 1, Edges.NONE);
        Edges.read("1 the 240th letter has the fault", "h1 0;" + gap + "w0 9x", -11, 239);
        Edges.read("1 the end behind 240 letters", "h1 0;" + gap + "w0 90", -11, 240);
        Edges.read("1 what comes behind 240 letters is not there", "h1 0;" + gap + "w0 9; x", 1, Edges.NONE);
        Edges.read("1 a word as the 240th", "h1 0;" + gap + "    h", -13, 239);
        Edges.read("1 a number of 239 figures", "h" + "1".repeat(239), -12, 1);
        Edges.read("1 blanks up to the 240th", "h1 0;" + " ".repeat(235), 0, Edges.NONE);
    }

    private static void everyLetterWhereAClauseBegins() {
        for (int c = 0; c <= 255; c++) {
            String letter = "" + (char) c;
            boolean blank = c == ' ';
            int first = blank ? 0 : -11;
            Edges.read("1 first", letter, first, blank ? Edges.NONE : c == 'h' ? 1 : 0);
            boolean word = "pwto".indexOf(c) >= 0;
            int later = blank ? 0 : c == 'h' ? -13 : -11;
            Edges.read("1 later", "h1 0;" + letter, later, blank ? Edges.NONE : word ? 6 : 5);
        }
    }

    private static void everyLetterWhereANumberBegins() {
        for (int c = 0; c <= 255; c++) {
            String letter = "" + (char) c;
            boolean figure = c >= '0' && c <= '9';
            boolean room = c >= '1' && c <= '8';
            Edges.read("1 a number's first", "h" + letter, figure && !room ? -12 : -11, room || c == ' ' ? 2 : 1);
            Edges.read("1 the second number's", "h1 " + letter, -11, figure || c == ' ' ? 4 : 3);
        }
    }

    private static void everyLetterWhereAClauseEnds() {
        for (int c = 0; c <= 255; c++) {
            boolean goesOn = c == ' ' || c >= '0' && c <= '9';
            int answer = c == ';' ? 0 : -11;
            Edges.read("1 the end", "h1 0" + (char) c, answer, c == ';' ? Edges.NONE : goesOn ? 5 : 4);
        }
    }

    private static void roomsFrom1To8() {
        Edges.read("1 N 0", "h0 0;", -12, 1);
        for (int n = 1; n <= 8; n++) {
            Edges.read("1 N " + n, "h" + n + " 0;", 0, Edges.NONE);
            TrayLands x = Edges.made("h" + n + " 0;");
            Edges.due("1 rooms", x.told(0), n);
            Edges.due("1 the last room", x.room(n - 1), 0);
            Edges.due("1 no room behind it", x.room(n), Edges.UNKNOWN);
        }
        Edges.read("1 N 9", "h9 0;", -12, 1);
        Edges.read("1 N 10", "h10 0;", -12, 1);
        Edges.read("1 N 999", "h999 0;", -12, 1);
        Edges.read("1 N 257, which is 1 as a byte", "h257 0;", -12, 1);
    }

    private static void evenFrom0To99() {
        Edges.read("1 E 0", "h1 0;", 0, Edges.NONE);
        Edges.read("1 E 99", "h1 99;", 0, Edges.NONE);
        Edges.read("1 E 100", "h1 100;", -12, 3);
        Edges.read("1 E 999", "h1 999;", -12, 3);
    }

    private static void hFirst() {
        Edges.read("1 p first", "p0 1;", -11, 0);
        Edges.read("1 w first", "w0 1;", -11, 0);
        Edges.read("1 t first", "t1 1;", -11, 0);
        Edges.read("1 o first", "o0 1;", -11, 0);
        Edges.read("1 behind blanks", "   t1 1;h1 0;", -11, 3);
        Edges.read("1 h alone will do", "h1 0;", 0, Edges.NONE);
    }

    private static void hOnce() {
        Edges.read("3 h again", "h1 0;h1 0;", -13, 5);
        Edges.read("3 h again behind others", "h1 0;w0 1; h", -13, 11);
        Edges.read("3 h again ahead of what follows it", "h1 0;h9", -13, 5);
        Edges.read("1 h within a clause is no word there", "h1 0;w0 h", -11, 8);
    }

    private static void passagesTwelveAtMost() {
        Edges.read("1 twelve", "h8 0;" + TWELVE, 0, Edges.NONE);
        Edges.due("1 twelve are told", Edges.made("h8 0;" + TWELVE).told(1), 12);
        Edges.read("3 the thirteenth, at it", "h8 0;" + TWELVE + "p1 7;", -13, 65);
        Edges.read("3 behind a blank", "h8 0;" + TWELVE + " p1 7;", -13, 66);
        Edges.read("3 whatever follows", "h8 0;" + TWELVE + "px", -13, 65);
        Edges.read("3 others still come", "h8 0;" + TWELVE + "w0 1;", 1, Edges.NONE);
    }

    private static void passagesBetweenUnlikeRooms() {
        Edges.read("4 B like A", "h2 0;p0 0;", -14, 8);
        Edges.read("4 the last room", "h8 0;p7 7;", -14, 8);
        Edges.read("4 at the B behind blanks", "h2 0;p1   1;", -14, 10);
        Edges.read("4 like by what they are, not how they are written", "h2 0;p0 00;", -14, 8);
        Edges.read("4 in a hotel of one room", "h1 0;p0 0;", -14, 8);
    }

    private static void noTwoPassagesBetweenTheSame() {
        Edges.read("4 again", "h2 0;p0 1;p0 1;", -14, 13);
        Edges.read("4 the other way", "h2 0;p0 1;p1 0;", -14, 13);
        Edges.read("4 much later, first and last room", "h8 0;p0 7;p1 2;p3 4;p007   000;", -14, 27);
        Edges.read("4 one room in common is no fault", "h3 0;p0 1;p0 2;p2 1;", 0, Edges.NONE);
        Edges.read("4 the twelfth", "h8 0;" + TWELVE.substring(0, 55) + "p6 0;", -14, 63);
    }

    private static void passagesBetweenRoomsThatThereAre() {
        Edges.read("2 A the last", "h3 0;p2 0;", 0, Edges.NONE);
        Edges.read("2 A behind the last", "h3 0;p3 0;", -12, 6);
        Edges.read("2 B the last", "h3 0;p0 2;", 0, Edges.NONE);
        Edges.read("2 B behind the last", "h3 0;p0 3;", -12, 8);
        Edges.read("2 A 8 of eight", "h8 0;p8 0;", -12, 6);
        Edges.read("2 B 8 of eight", "h8 0;p0 8;", -12, 8);
        Edges.read("2 B 32, which is 0 for a shift", "h8 0;p1 32;", -12, 8);
        Edges.read("2 at its first, behind a blank", "h3 0;p 3 0;", -12, 7);
    }

    private static void waitersFourAtMost() {
        String four = "h1 0;w0 1;w0 1;w0 1;w0 1;";
        Edges.read("1 four", four, 4, Edges.NONE);
        Edges.read("3 the fifth, at it", four + "w0 1;", -13, 25);
        Edges.read("3 whatever follows", four + "  w", -13, 27);
        Edges.read("3 others still come", four + "t1 1;o0 0;", 4, Edges.NONE);
    }

    private static void waitersBounds() {
        Edges.read("2 C 0", "h1 0;w0 0;", -12, 8);
        Edges.read("2 C 000", "h1 0;w0 000;", -12, 8);
        Edges.read("2 C 1", "h1 0;w0 1;", 1, Edges.NONE);
        Edges.read("2 C 999", "h1 0;w0 999;", 1, Edges.NONE);
        Edges.read("2 C 1000", "h1 0;w0 1000;", -12, 8);
        Edges.read("2 A the last", "h4 0;w3 1;", 1, Edges.NONE);
        Edges.read("2 A behind the last", "h4 0;w4 1;", -12, 6);
        TrayLands x = Edges.made("h8 0;w7 999;w0 1;");
        Edges.due("2 is there", x.waiter(0, 0), 7);
        Edges.due("2 carries most", x.waiter(0, 1), 999);
        Edges.due("2 carries least", x.waiter(1, 1), 1);
    }

    private static void thingsEightAtMost() {
        String eight = "h1 0;" + "t1 1;".repeat(8);
        Edges.read("1 eight", eight, 0, Edges.NONE);
        Edges.due("1 eight are told", Edges.made(eight).told(3), 8);
        Edges.due("1 all in the pantry", Edges.made(eight).told(9), 255);
        Edges.read("3 the ninth, at it", eight + "t1 1;", -13, 45);
        Edges.read("3 whatever follows", eight + " t;", -13, 46);
    }

    private static void thingsBounds() {
        Edges.read("2 G 0", "h1 0;t0 1;", -12, 6);
        Edges.read("2 G 1", "h1 0;t1 1;", 0, Edges.NONE);
        Edges.read("2 G 99", "h1 0;t99 1;", 0, Edges.NONE);
        Edges.read("2 G 100", "h1 0;t100 1;", -12, 6);
        Edges.read("2 V 0", "h1 0;t1 0;", 0, Edges.NONE);
        Edges.read("2 V 99", "h1 0;t1 99;", 0, Edges.NONE);
        Edges.read("2 V 100", "h1 0;t1 100;", -12, 8);
        TrayLands x = Edges.made("h1 0;t1 99;t99 0;");
        Edges.due("2 weighs least", x.thing(0, 0), 1);
        Edges.due("2 worth most", x.thing(0, 1), 99);
        Edges.due("2 weighs most", x.thing(1, 0), 99);
        Edges.due("2 worth least", x.thing(1, 1), 0);
    }

    private static void ordersFourAtMost() {
        String four = "h1 0;o0 1;o0 1;o0 1;o0 1;";
        Edges.read("1 four", four, 0, Edges.NONE);
        Edges.due("1 four are told", Edges.made(four).told(4), 4);
        Edges.read("3 the fifth, at it", four + "o0 1;", -13, 25);
        Edges.read("3 whatever follows", four + "o", -13, 25);
    }

    private static void ordersBounds() {
        Edges.read("2 A the last", "h2 0;o1 0;", 0, Edges.NONE);
        Edges.read("2 A behind the last", "h2 0;o2 0;", -12, 6);
        Edges.read("2 M 0", "h1 0;o0 0;", 0, Edges.NONE);
        Edges.read("2 M 99", "h1 0;o0 99;", 0, Edges.NONE);
        Edges.read("2 M 100", "h1 0;o0 100;", -12, 8);
    }

    private static void countsAreApart() {
        Edges.read("1 as much of each as there can be", Edges.FULL_HOUSE, 4, Edges.NONE);
        int end = Edges.FULL_HOUSE.length();
        for (String word : new String[] {"h", "p", "w", "t", "o"}) {
            Edges.read("3 no more of " + word, Edges.FULL_HOUSE + word, -13, end);
        }
        Edges.read("1 in any order", "h2 0;o1 5;t5 5;w1 5;p1 0;t6 6;w0 6;o0 6;", 2, Edges.NONE);
    }

    private static void numbersOfOneToThreeFigures() {
        Edges.read("2 one", "h1 0;", 0, Edges.NONE);
        Edges.read("2 two", "h01 00;", 0, Edges.NONE);
        Edges.read("2 three", "h001 099;", 0, Edges.NONE);
        Edges.read("2 four, though in bounds", "h0001 0;", -12, 1);
        Edges.read("2 four, the second number", "h1 0000;", -12, 3);
        Edges.read("2 four, at its first behind blanks", "h1   0000;", -12, 5);
        Edges.read("2 five", "h1 0;w0 00009;", -12, 8);
        Edges.read("2 ten, like a number of 32 bits that is in bounds", "h4294967297 0;", -12, 1);
        Edges.read("2 twenty, like one of 64 bits that is in bounds", "h18446744073709551617 0;", -12, 1);
        Edges.read("2 at the text's end", "h1 0;w0 1234", -12, 8);
        Edges.read("1 none", "h;", -11, 1);
        Edges.read("1 no second", "h1;", -11, 2);
        Edges.read("1 no sign", "h1 -1;", -11, 3);
        Edges.read("1 no plus", "h+1 0;", -11, 1);
        Edges.due("2 leading zeros count for nothing", Edges.made("h1 0;w000 077;").waiter(0, 1), 77);
    }

    private static void wordsOfOneLetter() {
        Edges.read("1 two letters", "hh1 0;", -11, 1);
        Edges.read("1 a word's second letter", "h1 0;ww0 1;", -11, 6);
        Edges.read("1 a capital", "H1 0;", -11, 0);
        Edges.read("1 another capital", "h1 0;W0 1;", -11, 5);
    }

    private static void blanksAnywhereButWithinNumbers() {
        Edges.read("1 none but one", "h2 0;p0 1;w0 1;", 1, Edges.NONE);
        Edges.read("1 everywhere", "   h   2   0   ;   p   0   1   ;   w   0   1   ;   ", 1, Edges.NONE);
        Edges.read("1 within the last number", "h1 0;w0 1 0;", -11, 10);
        Edges.read("1 within the first number", "h1 0;t1 1 1;", -11, 10);
        Edges.read("1 a tab is none", "h1\t0;", -11, 2);
        Edges.read("1 a line's end is none", "h1 0;\n", -11, 5);
        Edges.read("1 letter 160 is none", "h1 0;" + (char) 160, -11, 5);
        Edges.read("1 letter 0 is none", (char) 0 + "h1 0;", -11, 0);
    }

    private static void twoNumbersNeedABlank() {
        Edges.read("1 without it they are one", "h10;", -12, 1);
        Edges.read("1 and one is too few", "h2 0;w01;", -11, 8);
        Edges.read("1 a word and a number need none", "h1 0;w0 1;", 1, Edges.NONE);
        Edges.read("1 a number and the end need none", "h1 0;", 0, Edges.NONE);
    }

    private static void faultAtTheEndIsAtTheLength() {
        String whole = "h2 0;p0 1;w1 12;";
        int[] clauseEnds = {0, 5, 10, 16};
        for (int n = 0; n <= whole.length(); n++) {
            boolean ends = false;
            for (int end : clauseEnds) {
                ends |= end == n;
            }
            Edges.read("1 cut at " + n, whole.substring(0, n), ends ? n == 16 ? 1 : 0 : -11, ends ? Edges.NONE : n);
            if (!ends) {
                Edges.read("1 blanks behind it count", whole.substring(0, n) + "  ", -11, n + 2);
            }
        }
    }

    private static void firstLetterThatHasAFault() {
        Edges.read("2 ahead of a later 1", "h9 x", -12, 1);
        Edges.read("2 of A ahead of 2 of B", "h2 0;p2 9;", -12, 6);
        Edges.read("4 ahead of a later 1", "h2 0;p0 0 x", -14, 8);
        Edges.read("4 ahead of the end that is missing", "h2 0;p1 1", -14, 8);
        Edges.read("3 ahead of a later 1", "h1 0;h x", -13, 5);
        Edges.read("1 ahead of a later 2", "h1 0;x;w9 0;", -11, 5);
        Edges.read("1 of the end ahead of a later word's", "h1 0 w9 0;", -11, 5);
    }

    private static void ofOneLetterTheLeastFault() {
        Edges.read("1 ahead of 2: a number where none can stand", "h1 0;1000", -11, 5);
        Edges.read("1 ahead of 2: a third number", "h1 0 1000;", -11, 5);
        Edges.read("2 ahead of 4: B like A, of four figures", "h2 0;p0 0000;", -12, 8);
        Edges.read("2 ahead of 4: a passage that is, B of four figures", "h2 0;p0 1;p1 0000;", -12, 13);
    }

    private static void emptyText() {
        Edges.read("1 empty", "", 0, Edges.NONE);
        TrayLands x = Edges.made("");
        Edges.due("1 no rooms", x.told(0), 0);
        Edges.due("1 no hotel", x.minute(1), Edges.NOT);
        Edges.due("1 no draws", x.drift(1), Edges.NOT);
        // The document says no more than that blanks may stand anywhere: these tell no more than nothing.
        Edges.read("1 one blank", " ", 0, Edges.NONE);
        Edges.read("1 blanks", " ".repeat(240), 0, Edges.NONE);
        Edges.due("1 blanks are no hotel", Edges.made("  ").minute(1), Edges.NOT);
    }

    private static void textIsEmptyThen() {
        TrayLands x = new TrayLands();
        Edges.feedAll(x, "h1 0;");
        x.hotel();
        Edges.due("3 empty", x.told(5), 0);
        Edges.feedAll(x, "h1 0");
        Edges.due("3 a fault", x.hotel(), -11);
        Edges.due("3 empty with a fault too", x.told(5), 0);
        x.feed(';');
        Edges.due("3 nothing of it is left", x.hotel(), -11);
        Edges.due("3 the letter counts from the new text", x.fault(), 0);
    }

    private static void faultLeavesAllElse() {
        String[] faults = {"x", "h9 0;", "h1 0;h", "h2 0;w1 5;t5 5;o1 5;p0 0;"};
        int[] letters = {0, 1, 5, 23};
        for (int k = 0; k < faults.length; k++) {
            TrayLands x = new TrayLands();
            Edges.busy(x);
            x.hotel();
            Edges.feedAll(x, faults[k]);
            Edges.due("3 fault", x.hotel(), -11 - k);
            Edges.due("3 its letter", x.fault(), letters[k]);
            // The first fault() of the picture tells the latest text, so both end with the same one.
            Edges.feedAll(x, "h");
            x.hotel();
            Edges.unchanged("3 a text with fault " + (k + 1), x, left -> {
                Edges.busy(left);
                left.hotel();
                Edges.feedAll(left, "h");
                left.hotel();
            });
        }
    }

    private static void hotelBeginsAnew() {
        TrayLands x = new TrayLands();
        Edges.busy(x);
        x.hotel();
        x.seed(99);
        Edges.feedAll(x, Edges.HOUSE);
        Edges.due("3 how many waiters", x.hotel(), 3);
        Edges.due("3 minute 0", x.told(6), 0);
        Edges.due("3 no meetings", x.told(7), 0);
        Edges.due("3 nothing spilt", x.told(8), 0);
        Edges.due("3 nothing seen", x.told(11), 0);
        Edges.due("3 no book", x.told(12), 0);
        Edges.due("3 nothing to undo", x.undo(), Edges.NOT);
        Edges.due("3 image 0 is gone", x.goBack(0), Edges.NOT);
        Edges.due("3 image 1 is gone", x.goBack(1), Edges.NOT);
        for (int w = 0; w < 3; w++) {
            Edges.due("3 no route", x.waiter(w, 6), 0);
            Edges.due("3 no treaty", x.waiter(w, 7), 0);
            Edges.due("3 an empty tray", x.waiter(w, 4), 0);
        }
        Edges.due("3 the seed stays", x.seed(99), 99);
        Edges.unchanged("3 what was ahead of a hotel", x, fresh -> {
            Edges.feedAll(fresh, Edges.HOUSE);
            fresh.hotel();
            fresh.seed(99);
        });
    }

    private static void noHotelBeginsAnew() {
        TrayLands x = new TrayLands();
        Edges.busy(x);
        x.hotel();
        Edges.due("3 empty text", x.hotel(), 0);
        Edges.due("3 the seed stays", x.seed(5), 4711);
        Edges.unchanged("3 what was ahead of no hotel", x, fresh -> fresh.seed(5));
    }

    private static void faultOfTheLatest() {
        TrayLands x = new TrayLands();
        Edges.due("4 none at first", x.fault(), Edges.NONE);
        Edges.feedAll(x, "h1 0;x");
        Edges.due("4 none ahead of hotel()", x.fault(), Edges.NONE);
        x.hotel();
        Edges.due("4 the letter", x.fault(), 5);
        Edges.due("4 asked again", x.fault(), 5);
        x.feed('x');
        Edges.due("4 letters change it not", x.fault(), 5);
        x.hotel();
        Edges.due("4 letter 0", x.fault(), 0);
        x.hotel();
        Edges.due("4 none by an empty text", x.fault(), Edges.NONE);
        x.feed('x');
        x.hotel();
        Edges.feedAll(x, "h1 0;");
        x.hotel();
        Edges.due("4 none by a good text", x.fault(), Edges.NONE);
    }

    private static void toldFrom0To13() {
        TrayLands x = Edges.made(Edges.HOUSE);
        for (int odd : Edges.ODD) {
            if (odd < 0 || odd > 13) {
                Edges.due("5 told " + odd, x.told(odd), Edges.OUTSIDE);
            }
        }
        Edges.due("5 told 13", x.told(13), 0);
        Edges.due("5 told 14", x.told(14), Edges.OUTSIDE);
    }

    private static void toldOfTheFullHouse() {
        TrayLands x = Edges.made(Edges.FULL_HOUSE);
        int[] full = {8, 12, 4, 8, 4, 0, 0, 0, 0, 255, 0, 0, 0, 0};
        for (int what = 0; what < full.length; what++) {
            Edges.due("5 told " + what, x.told(what), full[what]);
        }
    }
}
