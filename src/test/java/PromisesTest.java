/** Each promise of the document by hand: ordinary calls, the edges that it names, wrong calls. */
public final class PromisesTest {
    private static final int NONE = -1;
    private static final int NOTHING = -1000;
    private static final int MAX = Integer.MAX_VALUE;
    private static final int MIN = Integer.MIN_VALUE;
    private static final String SMALL = "kind{posts 2 to 2,step 30 to 30,apart 50 to 50,slack 1}";

    private static int wrong = 0;
    private static int promise = 0;

    private static void due(String call, int got, int want) {
        if (got != want) {
            wrong++;
            System.out.println("promise " + promise + ": " + call + " answered " + got
                    + ", due is " + want);
        }
    }

    private static void due(String call, int got, int want, PostHouses x, int status) {
        due(call, got, want);
        due("status() behind " + call, x.status(), status);
    }

    private static void feed(PostHouses x, String text) {
        for (int at = 0; at < text.length(); at += 20) {
            int[] n = new int[5];
            for (int i = 0; i < 20; i++) {
                n[i / 4] = n[i / 4] << 8 | (at + i < text.length() ? text.charAt(at + i) : 0);
            }
            x.feed(n[0], n[1], n[2], n[3], n[4]);
        }
        x.end(text.length());
    }

    private static void kinds(PostHouses x, String text, int want) {
        feed(x, text);
        due("kinds() of " + text, x.kinds(), want);
    }

    private static void fault(String text, int want) {
        PostHouses x = new PostHouses();
        feed(x, text);
        due("kinds() of " + text, x.kinds(), -6, x, -6);
        due("fault() of " + text, x.fault(), want);
    }

    private static void good(String text, int want) {
        PostHouses x = new PostHouses();
        feed(x, text);
        due("kinds() of " + text, x.kinds(), want, x, 0);
        due("fault() of " + text, x.fault(), NONE);
        due("count(4) of " + text, x.count(4), want);
    }

    /** A book of HOLES of the first digger, 30 deep, known from the first week on. */
    private static PostHouses book(int... places) {
        PostHouses x = new PostHouses();
        for (int i = 0; i + 1 < places.length; i += 2) {
            x.hole(0, places[i], places[i + 1], 30, 0);
        }
        return x;
    }

    /** Four posts of the small kind: x, y and 30 to the right and 50 on. */
    private static void small(PostHouses x, int... corners) {
        for (int i = 0; i + 1 < corners.length; i += 2) {
            x.hole(0, corners[i], corners[i + 1], 30, 0);
            x.hole(0, corners[i] + 30, corners[i + 1], 30, 0);
            x.hole(0, corners[i], corners[i + 1] + 50, 30, 0);
            x.hole(0, corners[i] + 30, corners[i + 1] + 50, 30, 0);
        }
    }

    private static PostHouses smalls(int... corners) {
        PostHouses x = new PostHouses();
        small(x, corners);
        kinds(x, SMALL, 1);
        return x;
    }

    public static void main(String[] args) {
        newObject();
        hole();
        retell();
        strike();
        trench();
        plough();
        error();
        frame();
        spot();
        tape();
        kindsAndFault();
        housesAndHouse();
        houseEdges();
        place();
        explained();
        strength();
        cutAndPair();
        phases();
        dateAndStart();
        stands();
        fences();
        led();
        countAndStatus();
        System.out.println(wrong == 0 ? "all promises hold" : wrong + " answers are not as due");
        if (wrong != 0) {
            System.exit(1);
        }
    }

    private static void newObject() {
        promise = 1;
        PostHouses x = new PostHouses();
        due("NONE", PostHouses.NONE, -1);
        for (int what = 0; what < 8; what++) {
            due("count", x.count(what), 0);
        }
        due("status", x.status(), 0);
        due("fault", x.fault(), NONE);
        due("houses", x.houses(0), 0);
        due("explained", x.explained(400, 1), 0);
        due("fences", x.fences(400), 0);
        due("phases", x.phases(0, 0), 0);
        due("rivals", x.phases(0, 1), 1);
        due("stands", x.stands(0, 0, 1), 0);
        due("spot", x.spot(0, 0, 0), NOTHING);
        due("led", x.led(0, 0, 0), NONE);
        due("strength", x.strength(0, 0), NONE);
        due("error", x.error(2), 2);
    }

    private static void hole() {
        promise = 2;
        PostHouses x = new PostHouses();
        due("lowest", x.hole(0, -600, -600, 0, 0), 0, x, 0);
        due("highest", x.hole(1, 1099, 1099, 200, 400), 1, x, 0);
        int[][] bad = {{-1, 0, 0, 0, 0}, {2, 0, 0, 0, 0}, {0, -601, 0, 0, 0}, {0, 1100, 0, 0, 0},
            {0, 0, -601, 0, 0}, {0, 0, 1100, 0, 0}, {0, 0, 0, -1, 0}, {0, 0, 0, 201, 0},
            {0, 0, 0, 0, -1}, {0, 0, 0, 0, 401}, {MAX, MAX, MAX, MAX, MAX},
            {MIN, MIN, MIN, MIN, MIN}};
        for (int[] b : bad) {
            due("bad", x.hole(b[0], b[1], b[2], b[3], b[4]), -1, x, -1);
        }
        due("count", x.count(0), 2);
        for (int i = 2; i < 40; i++) {
            due("more", x.hole(0, 5, 5, 5, 5), i);
        }
        due("full", x.hole(0, 5, 5, 5, 5), -5, x, -5);
        due("full and bad", x.hole(0, 5, 5, 5, 401), -1, x, -1);
        due("count", x.count(0), 40);
    }

    private static void retell() {
        promise = 3;
        PostHouses x = book(10, 10, 400, 400);
        due("first", x.retell(0, 50, 7), 1, x, 0);
        due("ahead", x.spot(0, 6, 3), 30);
        due("known", x.spot(0, 7, 3), 50);
        due("told last, known first", x.retell(0, 20, 3), 2);
        due("week 3", x.spot(0, 3, 3), 20);
        due("told last counts", x.spot(0, 7, 3), 20);
        due("other", x.spot(1, 7, 3), 30);
        due("least", x.retell(0, 0, 0), 3);
        due("most", x.retell(0, 200, 400), 4);
        due("week 399", x.spot(0, 399, 3), 0);
        due("week 400", x.spot(0, 400, 3), 200);
        due("depth", x.retell(0, 201, 0), -1, x, -1);
        due("depth", x.retell(0, -1, 0), -1, x, -1);
        due("week", x.retell(0, 0, 401), -1, x, -1);
        due("week", x.retell(0, 0, -1), -1, x, -1);
        due("hole", x.retell(2, 0, 0), -2, x, -2);
        due("hole", x.retell(-1, 0, 0), -2, x, -2);
        due("hole and depth", x.retell(2, 201, 0), -1, x, -1);
        for (int i = 5; i <= 60; i++) {
            due("more", x.retell(1, 1, 1), i);
        }
        due("full", x.retell(1, 1, 1), -5, x, -5);
        due("full and no hole", x.retell(2, 1, 1), -2, x, -2);
        due("count", x.count(1), 60);
    }

    private static void strike() {
        promise = 4;
        PostHouses x = book(10, 10);
        due("strike", x.strike(0, 20), 0, x, 0);
        due("week 19", x.spot(0, 19, 2), 0);
        due("week 20", x.spot(0, 20, 2), NONE);
        due("later", x.strike(0, 30), 0, x, 0);
        due("week 20 still", x.spot(0, 20, 2), NONE);
        due("earlier", x.strike(0, 10), 0);
        due("week 9", x.spot(0, 9, 4), 1);
        due("week 10", x.spot(0, 10, 4), 0);
        due("hole", x.strike(1, 0), -2, x, -2);
        due("hole", x.strike(-1, 0), -2, x, -2);
        due("week", x.strike(0, 401), -1, x, -1);
        due("week and hole", x.strike(1, -1), -1, x, -1);
    }

    private static void trench() {
        promise = 5;
        PostHouses x = book(100, 100, 120, 100, 100, 140);
        kinds(x, "kind{step 20 to 20,apart 40 to 40,posts 2 to 2,miss 1}", 1);
        due("not dug", x.place(0, 0, 1, 1), -2);
        due("beside", x.trench(121, 0, 499, 499, 0), 1, x, 0);
        due("above", x.trench(0, 0, 499, 139, 0), 2);
        due("not dug", x.place(0, 0, 1, 1), -2);
        due("edge", x.trench(120, 140, 120, 140, 9), 3);
        due("not known", x.place(8, 0, 1, 1), -2);
        due("dug at the edge", x.place(9, 0, 1, 1), -4);
        int[][] bad = {{-1, 0, 5, 5, 0}, {0, -1, 5, 5, 0}, {0, 0, 500, 5, 0}, {0, 0, 5, 500, 0},
            {6, 0, 5, 5, 0}, {0, 6, 5, 5, 0}, {0, 0, 5, 5, -1}, {0, 0, 5, 5, 401},
            {MAX, MIN, MIN, MAX, 0}};
        for (int[] b : bad) {
            due("bad", x.trench(b[0], b[1], b[2], b[3], b[4]), -1, x, -1);
        }
        for (int i = 4; i <= 20; i++) {
            due("more", x.trench(0, 0, 499, 499, 400), i);
        }
        due("full", x.trench(0, 0, 499, 499, 400), -5, x, -5);
        due("full and bad", x.trench(0, 0, 500, 499, 400), -1, x, -1);
        due("count", x.count(2), 20);
    }

    private static void plough() {
        promise = 6;
        PostHouses x = book(100, 100, 200, 200);
        due("plough", x.plough(0, 0, 100, 100, 7), 1, x, 0);
        due("edge", x.spot(0, 0, 3), 37);
        due("beside", x.spot(1, 0, 3), 30);
        due("deeper", x.plough(100, 100, 100, 100, 100), 2);
        due("greatest counts", x.spot(0, 0, 3), 130);
        due("shallow", x.plough(0, 0, 499, 499, 0), 3);
        due("greatest still", x.spot(0, 0, 3), 130);
        due("nothing", x.spot(1, 0, 3), 30);
        int[][] bad = {{-1, 0, 5, 5, 0}, {0, -1, 5, 5, 0}, {0, 0, 500, 5, 0}, {0, 0, 5, 500, 0},
            {6, 0, 5, 5, 0}, {0, 6, 5, 5, 0}, {0, 0, 5, 5, -1}, {0, 0, 5, 5, 101}};
        for (int[] b : bad) {
            due("bad", x.plough(b[0], b[1], b[2], b[3], b[4]), -1, x, -1);
        }
        for (int i = 4; i <= 20; i++) {
            due("more", x.plough(0, 0, 1, 1, 5), i);
        }
        due("full", x.plough(0, 0, 1, 1, 5), -5, x, -5);
        due("count", x.count(3), 20);
    }

    private static void error() {
        promise = 7;
        PostHouses x = new PostHouses();
        x.hole(0, 125, 100, 1, 0);
        x.hole(1, 100, 100, 1, 0);
        due("five", x.error(5), 2, x, 0);
        due("hits", x.frame(0, 3), 1);
        due("six", x.error(6), -1, x, -1);
        due("below", x.error(-1), -1, x, -1);
        due("none", x.error(0), 5, x, 0);
        due("hits", x.frame(0, 3), 0);
        due("four", x.error(4), 0);
        due("hits", x.frame(0, 3), 0);
    }

    private static void frameIs(PostHouses x, int known, int turn, int dx, int dy, int hits) {
        due("turn", x.frame(known, 0), turn);
        due("dx", x.frame(known, 1), dx);
        due("dy", x.frame(known, 2), dy);
        due("hits", x.frame(known, 3), hits);
    }

    private static void frame() {
        promise = 8;
        PostHouses x = book(103, 100, 97, 100);
        x.error(0);
        frameIs(x, 0, 0, 0, 0, 0);
        x.hole(1, 100, 100, 1, 5);
        frameIs(x, 4, 0, 0, 0, 0);
        frameIs(x, 5, 0, -3, 0, 1);
        x.strike(1, 6);
        frameIs(x, 6, 0, 3, 0, 1);
        x = book(100, 103, 100, 97);
        x.error(0);
        x.hole(1, 100, 100, 1, 0);
        frameIs(x, 0, 0, 0, -3, 1);
        // Turned once it lies at 250, 249, twice at 250, 250: both are five from one of these.
        x = book(255, 249, 255, 250);
        x.error(0);
        x.hole(1, 249, 249, 1, 0);
        frameIs(x, 0, 1, 5, 0, 1);
        // Two hits of a longer shift are more than one of none; two holes may hit the same one.
        x = book(100, 100, 300, 40);
        x.error(1);
        x.hole(1, 100, 100, 1, 0);
        x.hole(1, 80, 100, 1, 0);
        x.hole(1, 82, 100, 1, 0);
        frameIs(x, 0, 0, 19, 0, 2);
        x = book(121, 100);
        x.error(0);
        x.hole(1, 100, 100, 1, 0);
        frameIs(x, 0, 0, 0, 0, 0);
        x.error(1);
        frameIs(x, 0, 0, 20, 0, 1);
        for (int turn = 0; turn < 4; turn++) {
            x = book(50, 60, 150, 60, 50, 260);
            int[] px = {50, 150, 50};
            int[] py = {60, 60, 260};
            for (int i = 0; i < 3; i++) {
                int tx = px[i] - 20;
                int ty = py[i] + 20;
                for (int t = 0; t < turn; t++) {
                    int old = tx;
                    tx = ty;
                    ty = 499 - old;
                }
                x.hole(1, tx, ty, 1, 0);
            }
            x.error(0);
            frameIs(x, 0, turn, 20, -20, 3);
        }
        due("what", x.frame(0, 4), NOTHING);
        due("what", x.frame(0, -1), NOTHING);
        due("week", x.frame(401, 0), NOTHING);
        due("week", x.frame(-1, 3), NOTHING);
    }

    private static void spot() {
        promise = 9;
        PostHouses x = new PostHouses();
        x.hole(0, -1, 50, 90, 0);
        x.hole(0, 1, 50, 10, 0);
        x.hole(0, 2, 51, 20, 0);
        x.hole(1, 0, 50, 40, 0);
        x.hole(1, -1, 48, 80, 0);
        x.hole(1, 100, 100, 5, 0);
        x.hole(1, 100, 500, 5, 0);
        x.hole(1, 499, 0, 5, 3);
        frameIs(x, 0, 0, 0, 0, 2);
        due("out of the field", x.spot(0, 0, 2), NONE);
        due("out of the field", x.spot(0, 0, 3), NONE);
        due("out of the field", x.spot(0, 0, 4), 0);
        due("out of the field", x.spot(0, 0, 0), -1);
        due("lowest spot", x.spot(3, 0, 2), 1);
        due("its depth", x.spot(3, 0, 3), 80);
        due("joined", x.spot(3, 0, 4), 0);
        due("x stays", x.spot(3, 0, 0), 0);
        due("to the other one", x.spot(4, 0, 2), 1);
        due("full depth", x.spot(1, 0, 3), 80);
        due("not joined", x.spot(2, 0, 3), 20);
        due("own", x.spot(5, 0, 2), 5);
        due("own", x.spot(5, 0, 4), 1);
        due("outside", x.spot(6, 0, 2), NONE);
        due("outside", x.spot(6, 0, 1), 500);
        due("not known", x.spot(7, 2, 0), NOTHING);
        due("not known", x.spot(7, 2, 1), NOTHING);
        due("not known", x.spot(7, 2, 2), NONE);
        due("not known", x.spot(7, 2, 3), NONE);
        due("not known", x.spot(7, 2, 4), 0);
        due("known", x.spot(7, 3, 4), 1);
        x.strike(5, 2);
        due("struck", x.spot(5, 2, 0), NOTHING);
        due("struck", x.spot(5, 2, 3), NONE);
        x.strike(1, 4);
        due("hits another", x.spot(3, 4, 2), 2);
        due("hits only one out of the field", x.spot(4, 4, 2), NONE);
        due("hits only one out of the field", x.spot(4, 4, 1), 48);
        due("hole", x.spot(8, 0, 0), NOTHING);
        due("hole", x.spot(-1, 0, 2), NOTHING);
        due("week", x.spot(0, 401, 2), NOTHING);
        due("week", x.spot(0, -1, 4), NOTHING);
        due("what", x.spot(0, 0, 5), NOTHING);
        due("what", x.spot(0, 0, -1), NOTHING);
    }

    private static void tape() {
        promise = 10;
        PostHouses x = new PostHouses();
        for (int i = 1; i <= 20; i++) {
            due("feed", x.feed(0x20202020, 0x20202020, 0x20202020, 0x20202020, 0x20202020), i * 20);
        }
        due("full", x.feed(0, 0, 0, 0, 0), NONE);
        due("count", x.count(7), 400);
        promise = 11;
        due("too many", x.end(401), NONE);
        due("below", x.end(-1), NONE);
        due("end", x.end(381), 381);
        due("still too many", x.feed(0, 0, 0, 0, 0), NONE);
        due("end", x.end(380), 380);
        due("feed", x.feed(0x20202020, 0x20202020, 0x20202020, 0x20202020, 0x2020206b), 400);
        due("fault at the last", x.kinds(), -6);
        due("fault at the last", x.fault(), 399);
        due("empty", x.count(7), 0);
        due("more than there are", x.end(1), NONE);
        due("none", x.end(0), 0);
        promise = 10;
        due("four bytes", x.feed(0x6b696e64, 0x7b7d2020, 0x20202020, 0x20202020, 0x20202020), 20);
        due("kind", x.kinds(), 1);
        due("a byte above 127", x.feed(-1, 0, 0, 0, 0), 20);
        due("no kind", x.kinds(), -6);
        due("its place", x.fault(), 0);
    }

    private static void kindsAndFault() {
        promise = 12;
        good("", 0);
        good("     ", 0);
        good("kind{}", 1);
        good("  kind  {  }  ", 1);
        good("kind{};kind{};kind{};kind{} ; kind{}", 5);
        good("kind{rows 2,rows 4,rows3}", 1);
        good("kind{posts 2 to 8,posts 2to2,posts8to 8}", 1);
        good("kind{step 5 to 100,apart 5 to 200,slack 0,slack 9}", 1);
        good("kind{deep 0 to 300,deep 300 to 300,pairs 0,pairs 300,miss 0,miss 4}", 1);
        good("kind{life 1,life 500,worth 1,worth 100,worth 0010}", 1);
        promise = 13;
        fault("kind{rows 1}", 10);
        fault("kind{posts 1 to 8}", 11);
        fault("kind{posts 2 to 9}", 16);
        fault("kind{posts 3 to 2}", 16);
        fault("kind{step 4 to 9}", 10);
        fault("kind{step 9 to 101}", 15);
        fault("kind{apart 4 to 9}", 11);
        fault("kind{apart 5 to 201}", 16);
        fault("kind{slack 10}", 11);
        fault("kind{deep 0 to 301}", 15);
        fault("kind{pairs 301}", 11);
        fault("kind{miss 5}", 10);
        fault("kind{life 0}", 10);
        fault("kind{life 501}", 10);
        fault("kind{worth 0}", 11);
        fault("kind{worth 101}", 11);
        fault("kind{worth 4294967306}", 11);
        fault("kind{worth 99999999999999999999}", 11);
        fault("kind{rows -2}", 10);
        fault("kind{rows two}", 10);
        fault("kind{step 5}", 11);
        fault("kind{step 5 too 6}", 12);
        fault("kind{rows 2,}", 12);
        fault("kind{rows 2 rows 2}", 12);
        fault("kind{,}", 5);
        fault("kind{row 2}", 5);
        fault("kind{Rows 2}", 5);
        fault("kind{rows 2", 11);
        fault("kind", 4);
        fault("kind   ", 7);
        fault("kinds{}", 0);
        fault("Kind{}", 0);
        fault("kind{}}", 6);
        fault("kind{} kind{}", 7);
        fault("kind{};", 7);
        fault("kind{};  ", 9);
        fault(";kind{}", 0);
        fault("kind{};;kind{}", 7);
        fault("kind{};kind{};kind{};kind{};kind{};kind{}", 35);
        fault("kind{};kind{};kind{};kind{};kind{}; x", 36);
        fault("kind{};kind{};kind{};kind{};kind{};", 35);
        fault("kind{}\t", 6);
        promise = 12;
        PostHouses x = smalls(100, 100);
        due("houses", x.houses(0), 1);
        due("life", x.start(0, 0, 1), 2000);
        kinds(x, "kind{};kind", -6);
        due("they stay", x.count(4), 1);
        due("they stay", x.houses(0), 1);
        due("the tape is empty", x.count(7), 0);
        kinds(x, " ", 0);
        due("none", x.count(4), 0);
        due("none", x.houses(0), 0);
        due("no fault", x.fault(), NONE);
    }

    private static void housesAndHouse() {
        promise = 14;
        PostHouses x = book(100, 100, 120, 100, 140, 100, 100, 140, 120, 140, 140, 140);
        x.trench(0, 0, 499, 499, 0);
        kinds(x, "kind{step 20 to 20,apart 40 to 40,posts 3 to 3}", 1);
        due("one", x.houses(0), 1);
        due("one", x.houses(400), 1);
        due("week", x.houses(401), NONE);
        due("week", x.houses(-1), NONE);
        promise = 15;
        int[] want = {0, 0, 1, 3, 3, 6, 0, 0, 0, 60, 1};
        for (int what = 0; what < want.length; what++) {
            due("house 0, " + what, x.house(0, 0, what), want[what]);
        }
        due("what", x.house(0, 0, 11), NOTHING);
        due("what", x.house(0, 0, -1), NOTHING);
        due("house", x.house(0, 1, 0), NOTHING);
        due("house", x.house(0, -1, 0), NOTHING);
        due("week", x.house(401, 0, 0), NOTHING);
        // Two kinds alike: each has its own, the first kind's comes first.
        kinds(x, "kind{step 20 to 20,apart 40 to 40,posts 3 to 3};"
                + "kind{step 20 to 20,apart 40 to 40,posts 3 to 3}", 2);
        due("two", x.houses(0), 2);
        due("first kind", x.house(0, 0, 0), 0);
        due("second kind", x.house(0, 1, 0), 1);
        due("explained", x.house(0, 0, 10), 1);
        due("not explained", x.house(0, 1, 10), 0);
        // The greater value is the first, whatever its kind.
        kinds(x, "kind{step 20 to 20,apart 40 to 40,posts 3 to 3};"
                + "kind{step 20 to 20,apart 40 to 40,posts 3 to 3,worth 11}", 2);
        due("second kind first", x.house(0, 0, 0), 1);
        due("value", x.house(0, 0, 9), 66);
        due("value", x.house(0, 1, 9), 60);
        // A square grid has many more than 24.
        x = new PostHouses();
        for (int i = 0; i < 36; i++) {
            x.hole(0, 100 + i % 6 * 20, 100 + i / 6 * 20, 30, 0);
        }
        kinds(x, "kind{}", 1);
        due("24 at most", x.houses(0), 24);
        due("greatest", x.house(0, 0, 9), 120);
        due("number 23", x.house(0, 23, 9) > 0 ? 1 : 0, 1);
        due("number 24", x.house(0, 24, 9), NOTHING);
        // Below 0: three filled of four, one missed, worth one.
        x = book(100, 100, 120, 100, 100, 140);
        x.trench(0, 0, 499, 499, 0);
        kinds(x, "kind{step 20 to 20,apart 40 to 40,posts 2 to 2,miss 1,worth 1}", 1);
        due("below 0", x.house(0, 0, 9), -2);
        due("not explained", x.house(0, 0, 10), 0);
        due("none explained", x.explained(0, 0), 0);
        due("in no house", x.led(0, 0, 0), 4);
    }

    private static void houseEdges() {
        promise = 15;
        // The fifth pair makes half of them filled again.
        PostHouses x = book(100, 100, 120, 100, 100, 140, 180, 100, 180, 140);
        kinds(x, "kind{step 20 to 20,apart 40 to 40}", 1);
        due("posts", x.house(0, 0, 4), 5);
        due("filled", x.house(0, 0, 5), 5);
        due("unseen", x.house(0, 0, 8), 5);
        kinds(x, "kind{step 20 to 20,apart 40 to 40,posts 2 to 4}", 1);
        due("posts, half filled", x.house(0, 0, 4), 3);
        kinds(x, "kind{step 20 to 20,apart 40 to 40,posts 4 to 4}", 1);
        due("less than half", x.houses(0), 0);
        // Eight empty ones, then the last two pairs: half of all.
        x = book(100, 100, 120, 100, 140, 100, 100, 140, 220, 100, 220, 140, 240, 100, 240, 140);
        kinds(x, "kind{step 20 to 20,apart 40 to 40}", 1);
        due("p", x.house(0, 0, 1), 0);
        due("posts", x.house(0, 0, 4), 8);
        due("filled", x.house(0, 0, 5), 8);
        due("unseen", x.house(0, 0, 8), 8);
        // Slack: from a place as far as it and not farther; upright as near as it.
        x = book(100, 100, 120, 100, 100, 140, 123, 144);
        kinds(x, "kind{step 20 to 20,apart 40 to 40,posts 2 to 2,slack 5}", 1);
        due("five away", x.house(0, 0, 5), 4);
        kinds(x, "kind{step 20 to 20,apart 40 to 40,posts 2 to 2,slack 4}", 1);
        due("farther", x.house(0, 0, 5), 3);
        x = book(100, 100, 120, 100, 104, 140);
        kinds(x, "kind{step 20 to 20,posts 2 to 2,slack 4}", 1);
        due("as upright as may be", x.houses(0), 1);
        kinds(x, "kind{step 20 to 20,posts 2 to 2,slack 3}", 1);
        due("not upright", x.houses(0), 0);
        // Steps and ways apart by their squares, edges too.
        x = book(100, 100, 120, 100, 100, 140);
        kinds(x, "kind{step 19 to 20,apart 40 to 41,posts 2 to 2}", 1);
        due("edges", x.houses(0), 1);
        kinds(x, "kind{step 20 to 20,apart 41 to 50,posts 2 to 2}", 1);
        due("too near", x.houses(0), 0);
        kinds(x, "kind{step 20 to 20,apart 20 to 39,posts 2 to 2}", 1);
        due("too far", x.houses(0), 0);
        kinds(x, "kind{step 21 to 30,apart 40 to 40,posts 2 to 2}", 1);
        due("step", x.houses(0), 0);
        // Deep and pairs, by full depths.
        x = new PostHouses();
        x.hole(0, 100, 100, 10, 0);
        x.hole(0, 120, 100, 20, 0);
        x.hole(0, 100, 140, 30, 0);
        x.hole(0, 120, 140, 40, 0);
        String one = "kind{step 20 to 20,apart 40 to 40,posts 2 to 2,";
        kinds(x, one + "deep 10 to 40}", 1);
        due("deep edges", x.house(0, 0, 5), 4);
        kinds(x, one + "deep 10 to 39}", 1);
        due("one too deep", x.house(0, 0, 5), 3);
        kinds(x, one + "deep 11 to 40}", 1);
        due("p too shallow", x.house(0, 0, 1), 3);
        kinds(x, one + "pairs 20}", 1);
        due("pairs edge", x.houses(0), 1);
        kinds(x, one + "pairs 19}", 1);
        due("pairs", x.houses(0), 0);
        x.plough(0, 0, 120, 100, 1);
        due("pairs by full depth", x.houses(0), 1);
        // Of two at one place the lower one fills it, and no framework is made by the other one.
        x = book(100, 100, 100, 100, 120, 100, 100, 140, 120, 140);
        kinds(x, one + "slack 3}", 1);
        due("one", x.houses(0), 1);
        due("lower", x.house(0, 0, 1), 0);
        due("spare one alone", x.led(1, 0, 0), 4);
        // No spot may fill two places.
        x = book(100, 100, 105, 100, 100, 106);
        kinds(x, "kind{step 5 to 5,apart 6 to 6,slack 5,posts 2 to 2}", 1);
        due("fills two", x.houses(0), 0);
        kinds(x, "kind{step 5 to 5,apart 6 to 6,slack 4,posts 2 to 2}", 1);
        due("fills one", x.houses(0), 1);
        // Two frameworks of the same spots: steps of 20 from hole 0 on, of 21 from hole 2 on.
        x = book(100, 100, 120, 100, 100, 140, 121, 140);
        kinds(x, "kind{step 20 to 21,apart 40 to 40,slack 2,posts 3 to 3,miss 2}", 1);
        due("one of them", x.houses(0), 1);
        due("of alike ones the first", x.house(0, 0, 1), 0);
        x.trench(140, 0, 141, 499, 1);
        due("one of them", x.houses(1), 1);
        due("the one that misses none", x.house(1, 0, 1), 2);
        due("its value", x.house(1, 0, 9), 40);
        x.trench(142, 0, 142, 499, 2);
        due("both miss two", x.house(2, 0, 1), 0);
        due("its value", x.house(2, 0, 9), 30);
        // miss as many as may be, and one more.
        x = book(100, 100, 120, 100, 140, 100, 160, 100, 100, 140);
        x.trench(0, 0, 499, 499, 0);
        kinds(x, "kind{step 20 to 20,apart 40 to 40,miss 2}", 1);
        due("posts by miss", x.house(0, 0, 4), 3);
        due("value", x.house(0, 0, 9), 30);
        kinds(x, "kind{step 20 to 20,apart 40 to 40,miss 3}", 1);
        due("posts by miss", x.house(0, 0, 4), 4);
        due("value", x.house(0, 0, 9), 35);
        // Ploughed away as deep as the least: lost, two each; nothing ploughed is not lost.
        x.plough(0, 120, 499, 499, 0);
        due("not lost", x.house(0, 0, 7), 0);
        x.plough(0, 120, 499, 499, 1);
        due("a fifth pair, half of them filled", x.house(0, 0, 4), 5);
        due("lost", x.house(0, 0, 7), 4);
        due("missed", x.house(0, 0, 6), 1);
        due("value", x.house(0, 0, 9), 37);
        kinds(x, "kind{step 20 to 20,apart 40 to 40,miss 3,deep 2 to 300}", 1);
        due("not deep enough to be lost", x.house(0, 0, 7), 0);
        due("missed", x.house(0, 0, 6), 3);
    }

    private static void place() {
        promise = 16;
        PostHouses x = book(100, 100, 120, 100, 140, 100, 100, 140, 122, 141);
        kinds(x, "kind{step 20 to 20,apart 40 to 40}", 1);
        x.trench(130, 130, 150, 150, 4);
        due("p", x.place(0, 0, 0, 0), 0);
        due("q", x.place(0, 0, 1, 0), 1);
        due("r", x.place(0, 0, 0, 1), 3);
        due("near", x.place(0, 0, 1, 1), 4);
        due("posts", x.house(0, 0, 4), 5);
        due("unseen", x.place(0, 0, 2, 1), -2);
        kinds(x, "kind{step 20 to 20,apart 40 to 40,miss 1,deep 5 to 30}", 1);
        due("missed", x.place(4, 0, 2, 1), -4);
        x.plough(140, 140, 140, 140, 4);
        due("still missed", x.place(4, 0, 2, 1), -4);
        x.plough(140, 140, 140, 140, 5);
        due("lost", x.place(4, 0, 2, 1), -3);
        due("unseen ahead", x.place(3, 0, 2, 1), -2);
        due("i", x.place(0, 0, 5, 0), NOTHING);
        due("i", x.place(0, 0, -1, 0), NOTHING);
        due("j", x.place(0, 0, 0, 2), NOTHING);
        due("j", x.place(0, 0, 0, -1), NOTHING);
        due("house", x.place(0, 24, 0, 0), NOTHING);
        due("house", x.place(0, -1, 0, 0), NOTHING);
        due("week", x.place(401, 0, 0, 0), NOTHING);
        // A place out of the field is not dug.
        x = book(450, 100, 490, 100, 450, 140, 490, 140);
        x.trench(0, 0, 499, 499, 0);
        kinds(x, "kind{step 40 to 40,apart 40 to 40,posts 3 to 3}", 1);
        due("p", x.house(0, 0, 1), 0);
        due("out of the field", x.place(0, 0, 2, 0), -2);
        // Of spots as near as one another the lower one fills.
        x = book(122, 140, 100, 100, 120, 100, 100, 140, 118, 140);
        kinds(x, "kind{step 20 to 20,apart 40 to 40,posts 2 to 2}", 1);
        due("lower", x.place(0, 0, 1, 1), 0);
    }

    private static void explained() {
        promise = 17;
        PostHouses x = book(100, 100, 120, 100, 140, 100, 160, 100, 100, 140, 120, 140, 140, 140,
                160, 140);
        x.trench(0, 0, 499, 499, 0);
        kinds(x, "kind{step 20 to 20,apart 40 to 40,posts 4 to 4};"
                + "kind{step 20 to 20,apart 40 to 40,posts 2 to 2}", 2);
        due("houses", x.houses(0), 4);
        due("fewest of alike", x.explained(0, 0), 1);
        due("value", x.explained(0, 1), 80);
        kinds(x, "kind{step 20 to 20,apart 40 to 40,posts 4 to 4};"
                + "kind{step 20 to 20,apart 40 to 40,posts 2 to 2,worth 11}", 2);
        due("two are worth more", x.explained(0, 0), 2);
        due("value", x.explained(0, 1), 88);
        kinds(x, "kind{step 20 to 20,apart 40 to 40,posts 3 to 3}", 1);
        due("one of two alike", x.explained(0, 0), 1);
        due("the first", x.house(0, 0, 10), 1);
        due("not the second", x.house(0, 1, 10), 0);
        // The greatest of all is not in the greatest set.
        x = book(100, 100, 130, 100, 160, 100, 190, 100, 220, 100, 250, 100, 100, 150, 130, 150,
                160, 150, 190, 150, 220, 150, 250, 150);
        kinds(x, "kind{step 30 to 30,apart 50 to 50,posts 3 to 3};"
                + "kind{step 30 to 30,apart 50 to 50,posts 4 to 4}", 2);
        due("greatest of all", x.house(0, 0, 9), 80);
        due("greatest set", x.explained(0, 1), 120);
        due("two", x.explained(0, 0), 2);
        // Three of 96, 32 and 32 are found first, but two of 80 are fewer.
        x = new PostHouses();
        for (int i = 0; i < 16; i++) {
            int column = i / 2;
            int depth = column >= 2 && column <= 4 ? 100 : 30;
            x.hole(0, 100 + column * 30, 100 + i % 2 * 50, depth, 0);
        }
        x.trench(0, 0, 499, 499, 0);
        kinds(x, "kind{step 30 to 30,apart 50 to 50,posts 3 to 3,deep 100 to 100,worth 16};"
                + "kind{step 30 to 30,apart 50 to 50,posts 4 to 4};"
                + "kind{step 30 to 30,apart 50 to 50,posts 2 to 2,deep 0 to 50,worth 8}", 3);
        due("houses", x.houses(0), 9);
        due("the greatest", x.house(0, 0, 9), 96);
        due("is not explained", x.house(0, 0, 10), 0);
        due("fewest", x.explained(0, 0), 2);
        due("value", x.explained(0, 1), 160);
        due("what", x.explained(0, 2), NONE);
        due("what", x.explained(0, -1), NONE);
        due("week", x.explained(401, 0), NONE);
        due("week", x.explained(-1, 1), NONE);
    }

    private static void strength() {
        promise = 18;
        PostHouses x = book(100, 100, 120, 100, 100, 140);
        kinds(x, "kind{step 20 to 20,apart 40 to 40,posts 2 to 2,slack 0};kind{rows 4}", 2);
        due("trials 1, 4 and 7", x.strength(0, 0), 3);
        due("none is not below none", x.strength(1, 0), 0);
        due("kind", x.strength(2, 0), NONE);
        due("kind", x.strength(-1, 0), NONE);
        due("week", x.strength(0, 401), NONE);
        due("week", x.strength(0, -1), NONE);
        due("places stay", x.place(0, 0, 0, 1), 2);
        x.hole(0, 400, 400, 1, 9);
        due("a fourth spot: all but trial 4", x.strength(0, 9), 6);
        due("as known", x.strength(0, 8), 3);
        x = new PostHouses();
        kinds(x, "kind{}", 1);
        due("no spots", x.strength(0, 0), 0);
        // Below 0 is not above none: in trials 1, 4, 7 there is none, which is 0.
        x = book(100, 100, 120, 100, 100, 140);
        x.trench(0, 0, 499, 499, 0);
        kinds(x, "kind{step 20 to 20,apart 40 to 40,posts 2 to 2,slack 0,miss 1,worth 1}", 1);
        due("value", x.house(0, 0, 9), -2);
        due("below 0", x.strength(0, 0), 0);
        // There is none here, but one below 0 in trials 1, 2, 4, 5 and 7.
        x = book(100, 100, 120, 140, 100, 100);
        x.trench(0, 0, 499, 499, 0);
        kinds(x, "kind{step 20 to 20,apart 40 to 40,posts 2 to 2,slack 0,miss 1,worth 1}", 1);
        due("none", x.houses(0), 0);
        due("one below 0 is below none", x.strength(0, 0), 5);
    }

    private static void cutAndPair() {
        promise = 19;
        PostHouses x = smalls(100, 100, 110, 110, 300, 300);
        due("week", x.cut(0, 4, 401), -1, x, -1);
        due("week", x.cut(0, 4, -1), -1, x, -1);
        due("hole", x.cut(12, 4, 0), -2, x, -2);
        due("hole", x.cut(0, 12, 0), -2, x, -2);
        due("hole", x.cut(-1, -1, 0), -2, x, -2);
        due("itself", x.cut(4, 4, 0), -4, x, -4);
        due("week and itself", x.cut(4, 4, 401), -1, x, -1);
        due("cut", x.cut(4, 0, 5), 1, x, 0);
        due("within one house", x.cut(8, 9, 0), 2, x, 0);
        for (int i = 3; i <= 60; i++) {
            due("more", x.cut(8, 9, 0), i);
        }
        due("full", x.cut(8, 9, 0), -5, x, -5);
        due("full and itself", x.cut(8, 8, 0), -4, x, -4);
        due("count", x.count(5), 60);
        promise = 20;
        due("explained", x.explained(0, 0), 3);
        due("not known", x.pair(4, 1, 0, 1), 0);
        due("later", x.pair(5, 1, 0, 1), 1);
        due("earlier", x.pair(5, 0, 1, 1), 0);
        due("meet", x.pair(0, 0, 1, 0), 1);
        due("meet", x.pair(0, 1, 0, 0), 1);
        due("far", x.pair(0, 0, 2, 0), 0);
        due("itself", x.pair(0, 1, 1, 0), NONE);
        due("house", x.pair(0, 0, 3, 0), NONE);
        due("house", x.pair(0, -1, 0, 0), NONE);
        due("house", x.pair(0, MAX, 0, 0), NONE);
        due("what", x.pair(0, 0, 1, 2), NONE);
        due("what", x.pair(0, 0, 1, -1), NONE);
        due("week", x.pair(401, 0, 1, 0), NONE);
        x = smalls(100, 100, 130, 120);
        due("they touch", x.pair(0, 0, 1, 0), 1);
        x = smalls(100, 100, 131, 120);
        due("a gap of one", x.pair(0, 0, 1, 0), 0);
        x = smalls(100, 100, 130, 150);
        due("houses with a spot in common", x.houses(0), 4);
        due("one of them", x.explained(0, 0), 1);
        due("one of them", x.pair(0, 0, 1, 0), NONE);
        // One within the other.
        x = book(100, 100, 200, 100, 100, 250, 200, 250);
        small(x, 130, 150);
        kinds(x, SMALL + ";kind{posts 2 to 2,step 100 to 100,apart 150 to 150,slack 1}", 2);
        due("two", x.explained(0, 0), 2);
        due("within", x.pair(0, 0, 1, 0), 1);
        // A hole joined to a spot cuts as the spot would.
        x = smalls(100, 100, 300, 300);
        x.hole(1, 101, 101, 1, 2);
        x.cut(8, 4, 0);
        due("not known", x.pair(1, 0, 1, 1), 0);
        due("joined", x.pair(2, 0, 1, 1), 1);
        // Of houses that are not explained nothing is told.
        x = book(100, 100, 120, 100, 140, 100, 100, 140, 120, 140, 140, 140);
        kinds(x, "kind{step 20 to 20,apart 40 to 40,posts 2 to 2}", 1);
        due("houses", x.houses(0), 2);
        due("not explained", x.pair(0, 0, 1, 0), NONE);
    }

    private static void phasesAre(PostHouses x, int known, int count, int rivals, int... phases) {
        promise = 21;
        due("phases in " + known, x.phases(known, 0), count);
        due("rivals in " + known, x.phases(known, 1), rivals);
        promise = 22;
        for (int i = 0; i < phases.length; i++) {
            due("phase of " + i + " in " + known, x.phase(known, i), phases[i]);
        }
    }

    private static void phases() {
        PostHouses x = smalls(100, 100, 110, 110, 120, 120);
        phasesAre(x, 0, 3, 6, 0, 1, 2);
        x.cut(0, 8, 1);
        phasesAre(x, 1, 3, 3, 1, 2, 0);
        x.cut(4, 0, 2);
        phasesAre(x, 2, 3, 1, 1, 2, 0);
        x.cut(8, 4, 3);
        phasesAre(x, 3, NONE, NONE, NONE, NONE, NONE);
        due("week", x.phases(401, 0), NONE);
        due("what", x.phases(0, 2), NONE);
        due("what", x.phases(0, -1), NONE);
        due("house", x.phase(0, 3), NONE);
        due("house", x.phase(0, -1), NONE);
        due("house", x.phase(0, MIN), NONE);
        due("week", x.phase(-1, 0), NONE);
        // Those that don't meet may have one phase; a cut alone makes two.
        x = smalls(100, 100, 300, 100, 300, 300);
        phasesAre(x, 0, 1, 1, 0, 0, 0);
        x.cut(0, 4, 1);
        phasesAre(x, 1, 2, 2, 1, 0, 0);
        x.cut(4, 8, 2);
        phasesAre(x, 2, 3, 1, 2, 1, 0);
        x = smalls(100, 100, 300, 100);
        phasesAre(x, 0, 1, 1, 0, 0);
        x.cut(0, 4, 0);
        phasesAre(x, 0, 2, 1, 1, 0);
        x.cut(4, 0, 0);
        phasesAre(x, 0, NONE, NONE, NONE, NONE);
        // 6 ways of the three that meet, 3 of each of the others: 1458.
        x = smalls(100, 100, 110, 110, 120, 120, 300, 100, 300, 300, 100, 300, 400, 100, 400, 300);
        phasesAre(x, 0, 3, 1000, 0, 1, 2, 0, 0, 0, 0, 0);
        x = smalls(100, 100, 110, 110, 120, 120, 300, 100, 300, 300);
        phasesAre(x, 0, 3, 54, 0, 1, 2, 0, 0);
        phasesAre(new PostHouses(), 0, 0, 1);
    }

    private static void startIs(PostHouses x, int known, int house, int earliest, int latest) {
        due("earliest of " + house + " in " + known, x.start(known, house, 0), earliest);
        due("latest of " + house + " in " + known, x.start(known, house, 1), latest);
    }

    private static void dateAndStart() {
        promise = 23;
        PostHouses x = smalls(100, 100, 110, 110, 120, 120);
        due("from", x.date(0, -1, 5, 0), -1, x, -1);
        due("to", x.date(0, 5, 2001, 0), -1, x, -1);
        due("to below from", x.date(0, 5, 4, 0), -1, x, -1);
        due("week", x.date(0, 5, 5, 401), -1, x, -1);
        due("hole", x.date(12, 5, 5, 0), -2, x, -2);
        due("hole", x.date(-1, 5, 5, 0), -2, x, -2);
        due("hole and week", x.date(12, 5, 5, -1), -1, x, -1);
        promise = 24;
        startIs(x, 0, 0, 0, 1940);
        startIs(x, 0, 1, 30, 1970);
        startIs(x, 0, 2, 60, 2000);
        due("widest", x.date(0, 0, 2000, 1), 1, x, 0);
        due("one year", x.date(5, 1000, 1000, 2), 2, x, 0);
        startIs(x, 1, 0, 0, 1940);
        startIs(x, 2, 0, 0, 970);
        startIs(x, 2, 1, 1000, 1000);
        startIs(x, 2, 2, 1030, 2000);
        x.date(9, 1029, 1040, 3);
        x.date(10, 1035, 1050, 3);
        startIs(x, 3, 2, 1035, 1040);
        x.date(11, 0, 1029, 4);
        startIs(x, 4, 0, NONE, NONE);
        startIs(x, 4, 1, NONE, NONE);
        due("not explained", x.start(0, 3, 0), NONE);
        due("house", x.start(0, -1, 0), NONE);
        due("what", x.start(0, 0, 2), NONE);
        due("what", x.start(0, 0, -1), NONE);
        due("week", x.start(401, 0, 0), NONE);
        promise = 23;
        for (int i = 6; i <= 60; i++) {
            due("more", x.date(0, 0, 2000, 0), i);
        }
        due("full", x.date(0, 0, 2000, 0), -5, x, -5);
        due("full and no hole", x.date(12, 0, 2000, 0), -2, x, -2);
        due("count", x.count(6), 60);
        promise = 24;
        // The life of the one of the lower phase counts, and joined holes' dates do.
        x = book(100, 100, 200, 100, 100, 250, 200, 250);
        small(x, 130, 150);
        kinds(x, "kind{posts 2 to 2,step 30 to 30,apart 50 to 50,slack 1,life 7};"
                + "kind{posts 2 to 2,step 100 to 100,apart 150 to 150,slack 1,life 500}", 2);
        due("first kind first", x.house(0, 0, 0), 0);
        startIs(x, 0, 0, 0, 1993);
        startIs(x, 0, 1, 7, 2000);
        x.cut(4, 0, 1);
        startIs(x, 1, 1, 0, 1500);
        startIs(x, 1, 0, 500, 2000);
        x.hole(1, 102, 98, 1, 2);
        x.date(8, 1400, 1600, 0);
        startIs(x, 1, 1, 0, 1500);
        startIs(x, 2, 1, 1400, 1500);
        startIs(x, 2, 0, 1900, 2000);
        // Those not related don't wait for one another.
        x = smalls(100, 100, 300, 300);
        startIs(x, 0, 0, 0, 2000);
        startIs(x, 0, 1, 0, 2000);
        x.date(0, 700, 800, 0);
        startIs(x, 0, 0, 700, 800);
    }

    private static void stands() {
        promise = 25;
        PostHouses x = smalls(100, 100, 110, 110, 300, 300);
        x.date(0, 500, 510, 0);
        x.date(4, 600, 650, 0);
        x.date(8, 505, 520, 0);
        int[][] sure = {{509, 0}, {510, 1}, {519, 1}, {520, 2}, {529, 2}, {530, 1}, {534, 1},
            {535, 0}, {630, 0}, {650, 0}};
        for (int[] s : sure) {
            due("sure in " + s[0], x.stands(0, s[0], 0), s[1]);
        }
        int[][] most = {{499, 0}, {500, 1}, {504, 1}, {505, 2}, {539, 2}, {540, 1}, {549, 1},
            {550, 0}, {599, 0}, {600, 1}, {679, 1}, {680, 0}};
        for (int[] m : most) {
            due("most in " + m[0], x.stands(0, m[0], 1), m[1]);
        }
        due("first year", x.stands(0, 0, 0), 0);
        due("last year", x.stands(0, 2500, 1), 0);
        due("year", x.stands(0, 2501, 0), NONE);
        due("year", x.stands(0, -1, 0), NONE);
        due("what", x.stands(0, 0, 2), NONE);
        due("what", x.stands(0, 0, -1), NONE);
        due("week", x.stands(401, 0, 0), NONE);
        // Of those that meet only one may stand.
        x = smalls(100, 100, 110, 110, 120, 120, 300, 300);
        due("one of three and the far one", x.stands(0, 100, 1), 2);
        due("the last year of the latest", x.stands(0, 2029, 1), 2);
        due("behind it", x.stands(0, 2030, 1), 0);
        x = smalls(100, 100, 300, 300);
        due("both", x.stands(0, 100, 1), 2);
        x.cut(0, 4, 1);
        due("one is later", x.stands(1, 100, 1), 1);
        x.cut(4, 0, 2);
        due("no way", x.stands(2, 100, 1), NONE);
        due("no way", x.stands(2, 100, 0), NONE);
        x.date(0, 0, 10, 0);
        x.date(1, 20, 30, 0);
        due("no start", x.stands(0, 100, 0), NONE);
    }

    private static void fences() {
        promise = 26;
        PostHouses x = book(10, 10, 20, 10, 30, 10);
        due("three", x.fences(0), 0);
        x.hole(0, 40, 12, 1, 2);
        due("not known", x.fences(1), 0);
        due("two away from the line", x.fences(2), 1);
        x = book(10, 10, 20, 10, 30, 10, 20, 13);
        due("three away", x.fences(0), 0);
        // A slant: 5, 12 is 3.2 away from the line through 0, 0 and 30, 40; 5, 5 is 1 away.
        x = book(0, 0, 30, 40, 60, 80, 5, 12);
        due("too far away", x.fences(0), 0);
        x.hole(0, 5, 5, 1, 3);
        due("one away", x.led(4, 3, 0), 3);
        due("too far away", x.led(3, 3, 0), 4);
        // Exactly two away from 0, 0 .. 30, 40: (10, 10) has |30 * 10 - 40 * 10| / 50 = 2.
        x = book(0, 0, 30, 40, 300, 400, 10, 10);
        due("exactly two", x.fences(0), 1);
        // All at one place are no line.
        x = book(50, 50, 50, 50, 50, 50, 50, 50);
        due("one place", x.fences(0), 0);
        x.hole(0, 300, 77, 1, 0);
        due("and another place", x.fences(0), 1);
        // The longer line first; its spots are not looked at any more.
        x = book(100, 100, 100, 200, 100, 300, 100, 400, 200, 100, 300, 100, 400, 100, 450, 100);
        due("the rest has three", x.fences(0), 1);
        due("the longer one", x.led(0, 0, 1), 0);
        due("the longer one", x.led(7, 0, 1), 0);
        due("three are left", x.led(1, 0, 0), 4);
        x.hole(0, 100, 450, 1, 1);
        due("alike: the lower other one", x.led(1, 1, 1), 0);
        due("the second", x.led(4, 1, 1), 1);
        due("two", x.fences(1), 2);
        // Spots of houses are not in fences.
        x = smalls(100, 100);
        x.hole(0, 100, 200, 1, 0);
        x.hole(0, 100, 250, 1, 0);
        due("with those of the house there were four", x.fences(0), 0);
        kinds(x, "", 0);
        due("without the house", x.fences(0), 1);
        due("week", x.fences(401), NONE);
        due("week", x.fences(-1), NONE);
    }

    private static void led() {
        promise = 27;
        PostHouses x = smalls(100, 100);
        x.hole(0, 300, 10, 1, 3);
        x.hole(0, 300, 20, 1, 3);
        x.hole(0, 300, 40, 1, 3);
        x.hole(0, 300, 70, 1, 3);
        x.hole(0, 400, 400, 1, 3);
        x.hole(0, 500, 400, 1, 3);
        x.hole(1, 101, 101, 1, 3);
        x.hole(1, 301, 21, 1, 3);
        x.hole(1, 401, 401, 1, 3);
        x.hole(1, 499, 401, 1, 3);
        x.strike(3, 9);
        int[] how = {2, 2, 2, 2, 3, 3, 3, 3, 4, 1, 2, 3, 4, 1};
        int[] which = {0, 0, 0, 0, 0, 0, 0, 0, NONE, NONE, 0, 0, NONE, NONE};
        for (int i = 0; i < how.length; i++) {
            due("how " + i, x.led(i, 3, 0), how[i]);
            due("which " + i, x.led(i, 3, 1), which[i]);
        }
        due("not known", x.led(4, 2, 0), 0);
        due("not known", x.led(4, 2, 1), NONE);
        due("struck", x.led(3, 9, 0), 0);
        due("struck", x.led(3, 9, 1), NONE);
        due("hole", x.led(14, 3, 0), NONE);
        due("hole", x.led(-1, 3, 0), NONE);
        due("week", x.led(0, 401, 0), NONE);
        due("week", x.led(0, -1, 0), NONE);
        due("what", x.led(0, 3, 2), NONE);
        due("what", x.led(0, 3, -1), NONE);
    }

    private static void countAndStatus() {
        promise = 28;
        PostHouses x = smalls(100, 100);
        x.retell(0, 1, 0);
        x.retell(0, 1, 0);
        x.trench(0, 0, 1, 1, 0);
        x.trench(0, 0, 1, 1, 0);
        x.trench(0, 0, 1, 1, 0);
        x.plough(0, 0, 1, 1, 0);
        for (int i = 0; i < 6; i++) {
            x.cut(0, 1, 0);
        }
        for (int i = 0; i < 7; i++) {
            x.date(0, 1, 2, 0);
        }
        x.feed(0, 0, 0, 0, 0);
        int[] want = {4, 2, 3, 1, 1, 6, 7, 20};
        for (int what = 0; what < want.length; what++) {
            due("count(" + what + ")", x.count(what), want[what]);
        }
        due("what", x.count(8), NONE);
        due("what", x.count(-1), NONE);
        promise = 29;
        due("not refused", x.status(), 0);
        x.cut(0, 0, 0);
        due("refused", x.status(), -4);
        x.feed(0, 0, 0, 0, 0);
        x.end(500);
        x.houses(500);
        x.frame(0, 9);
        x.fault();
        x.led(0, 0, 9);
        due("others say nothing", x.status(), -4);
        x.kinds();
        due("kinds", x.status(), -6);
        x.error(2);
        due("error", x.status(), 0);
        x.error(9);
        due("error", x.status(), -1);
        x.kinds();
        due("kinds", x.status(), 0);
    }
}
