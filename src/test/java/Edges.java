import java.util.ArrayList;
import java.util.List;
import java.util.function.Consumer;
import java.util.function.IntUnaryOperator;
import java.util.function.ToIntFunction;

/** What the tests of edges share: answers that are due, hotels to begin with, pictures of an object. */
final class Edges {
    static final int NONE = -1;
    static final int UNKNOWN = -1000000001;
    static final int OUTSIDE = -1000000002;
    static final int NOT = -1000000003;
    static final int FULL = -1000000004;
    static final int HIGHEST = Integer.MAX_VALUE;
    static final int LOWEST = Integer.MIN_VALUE;

    /** Numbers beside the bounds, far off, and those that are like small ones for a shift or a narrow type. */
    static final int[] ODD = {LOWEST, LOWEST + 1, FULL, UNKNOWN, -65536, -256, -32, -31, -2, -1, 0, 1, 2, 3, 4, 5, 6,
        7, 8, 9, 31, 32, 33, 255, 256, 257, 65536, 1 << 30, HIGHEST - 1, HIGHEST};

    /** Six rooms: 0-1-2-3-5-4-1, three waiters, five things, three orders. */
    static final String HOUSE = "h6 9;p0 1;p1 2;p2 3;p1 4;p3 5;p4 5;w0 100;w3 60;w2 200;"
        + "t30 9;t20 4;t25 20;t8 1;t60 50;o5 4;o0 2;o3 1;";
    /** As much of each as there can be. */
    static final String FULL_HOUSE = "h8 99;p0 1;p0 2;p0 3;p0 4;p0 5;p0 6;p0 7;p1 2;p2 3;p3 4;p4 5;p5 6;"
        + "w0 999;w1 999;w2 1;w7 1;t99 99;t99 99;t99 99;t99 99;t99 99;t99 99;t99 99;t1 0;"
        + "o0 0;o7 99;o7 0;o0 99;";

    private static int answers;
    private static int wrong;

    private Edges() {
    }

    static void due(String what, int got, int want) {
        answers++;
        if (got != want) {
            wrong++;
            System.out.println(what + ": answered " + got + ", due is " + want);
        }
    }

    static void same(String what, List<String> got, List<String> want) {
        answers++;
        if (!got.equals(want)) {
            wrong++;
            System.out.println(what + ":\n  is     " + got + "\n  due is " + want);
        }
    }

    /** What a test's main method ends with. */
    static void end() {
        System.out.println(wrong == 0 ? answers + " answers are as due" : wrong + " answers are not as due");
        if (wrong != 0) {
            System.exit(1);
        }
    }

    static void feedAll(TrayLands x, String text) {
        for (char c : text.toCharArray()) {
            x.feed(c);
        }
    }

    static TrayLands made(String text) {
        TrayLands x = new TrayLands();
        feedAll(x, text);
        if (x.hotel() < 0) {
            due("a hotel of '" + text + "', its fault", x.fault(), NONE);
        }
        return x;
    }

    /** A text's answer, and the letter of its fault. */
    static void read(String what, String text, int answer, int at) {
        TrayLands x = new TrayLands();
        feedAll(x, text);
        due(what + ": hotel() of '" + text + "'", x.hotel(), answer);
        due(what + ": fault() of '" + text + "'", x.fault(), at);
    }

    /** HOUSE with something of everything, so that a change of anything shows. */
    static void busy(TrayLands x) {
        feedAll(x, HOUSE);
        x.hotel();
        x.seed(4711);
        x.lay(0, 0, 0);
        x.lay(4, 1, 1);
        x.treaty(0, 2, true);
        x.keep(0);
        x.route(1, 3);
        x.minute(1);
        x.keep(1);
        x.lay(1, 0, 1);
        x.route(0, 2345);
        x.route(2, 212);
        x.treaty(0, 1, true);
        x.minute(1);
        x.takeOff(1);
        x.see(2, 3, true);
        x.see(0, 20, false);
        x.write(0, 1);
        x.write(1, 5);
        feedAll(x, "h2 7;w");
    }

    /** The call is refused, and an object that was not asked is told by nothing from one that was. */
    static void refused(String what, int want, Consumer<TrayLands> ahead, ToIntFunction<TrayLands> call) {
        TrayLands asked = new TrayLands();
        ahead.accept(asked);
        due(what, call.applyAsInt(asked), want);
        unchanged(what, asked, ahead);
    }

    static void unchanged(String what, TrayLands asked, Consumer<TrayLands> ahead) {
        TrayLands left = new TrayLands();
        ahead.accept(left);
        same(what + " changes nothing", picture(asked), picture(left));
    }

    /** All that can be learnt of an object, its past, images and text too; the object is used up by it. */
    static List<String> picture(TrayLands x) {
        List<String> all = new ArrayList<>();
        all.add("told" + row(14, x::told) + " fault " + x.fault());
        all.add("rooms" + row(x.told(0), x::room));
        for (int t = 0; t < x.told(3); t++) {
            int thing = t;
            all.add("thing" + row(3, what -> x.thing(thing, what)));
        }
        for (int w = 0; w < x.told(2); w++) {
            int waiter = w;
            all.add("waiter" + row(8, what -> x.waiter(waiter, what)) + " goes" + row(10, n -> x.where(waiter, n)));
        }
        all.add("served" + row(x.told(4), x::served) + " spiller " + x.spiller() + " look " + x.look());
        all.add("book " + x.judge() + " seed " + x.seed(1));
        int steps = x.told(13);
        for (int k = 0; k < steps; k++) {
            all.add("undone " + x.undo() + " " + brief(x));
        }
        all.add("undone " + x.undo() + " seed " + x.seed(2));
        for (int i = 0; i < 2; i++) {
            all.add("image " + x.goBack(i) + " " + brief(x) + " seed " + x.seed(3 + i));
        }
        all.add("torn " + x.tear());
        all.add("text " + x.hotel() + " " + x.fault() + row(6, x::told));
        return all;
    }

    private static String brief(TrayLands x) {
        StringBuilder all = new StringBuilder();
        for (int what = 6; what <= 9; what++) {
            all.append(x.told(what)).append(' ');
        }
        for (int w = 0; w < x.told(2); w++) {
            for (int what : new int[] {0, 2, 3, 6, 7}) {
                all.append(x.waiter(w, what)).append(' ');
            }
        }
        return all.toString();
    }

    private static String row(int n, IntUnaryOperator call) {
        StringBuilder all = new StringBuilder();
        for (int k = 0; k < n; k++) {
            all.append(' ').append(call.applyAsInt(k));
        }
        return all.toString();
    }
}
