/** The edges of term I and of promises 1 to 9: what is told, the FRAME, the SPOTS. */
public final class FieldEdgesTest {
    private static final int NONE = Edges.NONE;
    private static final int NOTHING = Edges.NOTHING;
    private static final int MAX = Edges.MAX;
    private static final int MIN = Edges.MIN;
    private static final int[] NO_WEEKS = {-1, 401, MAX, MIN};

    public static void main(String[] args) {
        newObject();
        weeksOfTelling();
        weeksOfAsking();
        theField();
        fortyHoles();
        diggers();
        places();
        depths();
        retold();
        struck();
        trenches();
        dug();
        ploughed();
        turns();
        shifts();
        error();
        hitsAsKnown();
        takenFrame();
        frameAsked();
        spots();
        joined();
        fullDepth();
        spotAsked();
        Edges.end();
    }

    private static void due(String call, int got, int want) {
        Edges.due(call, got, want);
    }

    private static void newObject() {
        Edges.says("`PostHouses()`: No HOLES, KINDS.");
        PostHouses x = new PostHouses();
        due("NONE", PostHouses.NONE, -1);
        for (int what = 0; what <= 7; what++) {
            due("count(" + what + ")", x.count(what), 0);
        }
        for (int week = 0; week <= 400; week += 400) {
            for (int what = 0; what <= 3; what++) {
                due("frame", x.frame(week, what), 0);
            }
            for (int what = 0; what <= 4; what++) {
                due("spot", x.spot(0, week, what), NOTHING);
            }
            due("houses", x.houses(week), 0);
            due("house", x.house(week, 0, 0), NOTHING);
            due("place", x.place(week, 0, 0, 0), NOTHING);
            due("explained", x.explained(week, 0), 0);
            due("their values", x.explained(week, 1), 0);
            due("strength", x.strength(0, week), NONE);
            due("pair", x.pair(week, 0, 1, 0), NONE);
            due("phases", x.phases(week, 0), 0);
            due("rivals", x.phases(week, 1), 1);
            due("phase", x.phase(week, 0), NONE);
            due("start", x.start(week, 0, 0), NONE);
            due("for sure", x.stands(week, 0, 0), 0);
            due("at most", x.stands(week, 2500, 1), 0);
            due("fences", x.fences(week), 0);
            due("led", x.led(0, week, 0), NONE);
        }
        due("fault", x.fault(), NONE);
        due("status", x.status(), 0);
        Edges.told("retell", x, x.retell(0, 0, 0), -2);
        Edges.told("strike", x, x.strike(0, 0), -2);
        Edges.told("cut", x, x.cut(0, 1, 0), -2);
        Edges.told("date", x, x.date(0, 0, 0, 0), -2);
        Edges.told("kinds", x, x.kinds(), 0);
        due("end", x.end(0), 0);
        due("end", x.end(1), NONE);
        Edges.told("error", x, x.error(2), 2);
    }

    private static void weeksOfTelling() {
        Edges.says("WEEKS of knowing 0 .. 400.");
        PostHouses x = Edges.book(100, 100);
        for (int week = 0; week <= 400; week += 400) {
            Edges.told("hole", x, x.hole(0, 5, 5, 5, week), 1 + week / 400);
            Edges.told("retell", x, x.retell(0, 30, week), 1 + week / 400);
            Edges.told("strike", x, x.strike(1, week), 0);
            Edges.told("trench", x, x.trench(0, 0, 1, 1, week), 1 + week / 400);
            Edges.told("cut", x, x.cut(0, 1, week), 1 + week / 400);
            Edges.told("date", x, x.date(0, 5, 5, week), 1 + week / 400);
        }
        for (int week : NO_WEEKS) {
            Edges.told("hole in " + week, x, x.hole(0, 5, 5, 5, week), -1);
            Edges.told("retell in " + week, x, x.retell(0, 5, week), -1);
            Edges.told("strike in " + week, x, x.strike(0, week), -1);
            Edges.told("trench in " + week, x, x.trench(0, 0, 1, 1, week), -1);
            Edges.told("cut in " + week, x, x.cut(0, 1, week), -1);
            Edges.told("date in " + week, x, x.date(0, 5, 5, week), -1);
        }
        due("known to the last", x.spot(0, 400, 3), 30);
        due("known at the last alone", x.spot(2, 399, 2), NONE);
        due("known at the last alone", x.spot(2, 400, 2), 2);
    }

    private static void weeksOfAsking() {
        Edges.says("as known in a WEEK");
        PostHouses x = Edges.smalls(100, 100, 110, 110);
        for (int week = 0; week <= 400; week += 400) {
            due("frame", x.frame(week, 3), 0);
            due("spot", x.spot(0, week, 0), 100);
            due("houses", x.houses(week), 2);
            due("house", x.house(week, 1, 1), 4);
            due("place", x.place(week, 0, 0, 0), 0);
            due("explained", x.explained(week, 0), 2);
            due("strength", x.strength(0, week) >= 0 ? 1 : 0, 1);
            due("pair", x.pair(week, 0, 1, 0), 1);
            due("phases", x.phases(week, 0), 2);
            due("phase", x.phase(week, 1), 1);
            due("start", x.start(week, 0, 1), 1970);
            due("stands", x.stands(week, 100, 1), 1);
            due("fences", x.fences(week), 0);
            due("led", x.led(7, week, 0), 2);
        }
        for (int week : NO_WEEKS) {
            due("frame in " + week, x.frame(week, 3), NOTHING);
            due("spot in " + week, x.spot(0, week, 0), NOTHING);
            due("spot in " + week, x.spot(0, week, 2), NOTHING);
            due("houses in " + week, x.houses(week), NONE);
            due("house in " + week, x.house(week, 1, 1), NOTHING);
            due("place in " + week, x.place(week, 0, 0, 0), NOTHING);
            due("explained in " + week, x.explained(week, 0), NONE);
            due("strength in " + week, x.strength(0, week), NONE);
            due("pair in " + week, x.pair(week, 0, 1, 0), NONE);
            due("phases in " + week, x.phases(week, 0), NONE);
            due("rivals in " + week, x.phases(week, 1), NONE);
            due("phase in " + week, x.phase(week, 1), NONE);
            due("start in " + week, x.start(week, 0, 1), NONE);
            due("stands in " + week, x.stands(week, 100, 1), NONE);
            due("fences in " + week, x.fences(week), NONE);
            due("led in " + week, x.led(7, week, 0), NONE);
        }
    }

    /** The first row lies in the FIELD, the second one beside it. */
    private static void theField() {
        int[][] in = {{0, 0}, {499, 0}, {0, 499}, {499, 499}, {0, 250}, {250, 499}};
        int[][] out = {{-1, 0}, {0, -1}, {500, 0}, {0, 500}, {-1, -1}, {500, 500}, {-600, 1099}};
        for (int digger = 0; digger <= 1; digger++) {
            Edges.says("The FIELD is x, y 0 .. 499.");
            PostHouses x = new PostHouses();
            for (int[] place : in) {
                x.hole(digger, place[0], place[1], 7, 0);
            }
            for (int[] place : out) {
                x.hole(digger, place[0], place[1], 7, 0);
            }
            for (int i = 0; i < in.length + out.length; i++) {
                boolean isIn = i < in.length;
                int[] place = isIn ? in[i] : out[i - in.length];
                String call = "digger " + digger + " at " + place[0] + ", " + place[1];
                due(call, x.spot(i, 0, 0), place[0]);
                due(call, x.spot(i, 0, 1), place[1]);
                due(call, x.spot(i, 0, 2), isIn ? i : NONE);
                due(call, x.spot(i, 0, 3), isIn ? 7 : NONE);
                due(call, x.spot(i, 0, 4), isIn ? 1 : 0);
                due(call, x.led(i, 0, 0), isIn ? 4 : 1);
            }
        }
    }

    private static void fortyHoles() {
        Edges.says("HOLES 0 .. 39 (40 at most)");
        PostHouses x = new PostHouses();
        for (int i = 0; i < 40; i++) {
            due("a hole ahead of it", x.spot(i, 0, 0), NOTHING);
            Edges.told("retell of one that is not yet", x, x.retell(i, 5, 0), -2);
            Edges.told("hole", x, x.hole(1 - i % 2, 10 * i, 300, i, 0), i);
            due("count", x.count(0), i + 1);
        }
        Edges.told("one more", x, x.hole(0, 5, 5, 5, 5), -5);
        Edges.told("one more", x, x.hole(1, 5, 5, 5, 5), -5);
        due("count", x.count(0), 40);
        due("the last", x.spot(39, 0, 0), 390);
        due("the last", x.led(39, 0, 0) > 1 ? 1 : 0, 1);
        due("its depth", x.spot(39, 0, 3), 39);
        Edges.told("the last", x, x.retell(39, 5, 0), 1);
        Edges.told("the last", x, x.cut(39, 0, 0), 1);
        Edges.told("the last", x, x.date(39, 5, 5, 0), 1);
        Edges.told("the last", x, x.strike(39, 0), 0);
        for (int hole : new int[] {-1, 40, MAX, MIN}) {
            Edges.told("retell of " + hole, x, x.retell(hole, 5, 0), -2);
            Edges.told("strike of " + hole, x, x.strike(hole, 0), -2);
            Edges.told("cut by " + hole, x, x.cut(hole, 0, 0), -2);
            Edges.told("cut of " + hole, x, x.cut(0, hole, 0), -2);
            Edges.told("date of " + hole, x, x.date(hole, 5, 5, 0), -2);
            due("spot of " + hole, x.spot(hole, 0, 2), NOTHING);
            due("led of " + hole, x.led(hole, 0, 0), NONE);
        }
    }

    private static void diggers() {
        Edges.says("of a DIGGER 0 or 1");
        PostHouses x = new PostHouses();
        for (int digger : new int[] {-1, 2, MAX, MIN}) {
            Edges.told("digger " + digger, x, x.hole(digger, 5, 5, 5, 5), -1);
        }
        Edges.told("digger 0", x, x.hole(0, 5, 5, 5, 5), 0);
        Edges.told("digger 1", x, x.hole(1, 5, 5, 5, 5), 1);
        due("digger 1 hits", x.frame(5, 3), 1);
    }

    private static void places() {
        Edges.says("at a place x, y (-600 .. 1099 each)");
        for (int digger = 0; digger <= 1; digger++) {
            PostHouses x = new PostHouses();
            int number = 0;
            for (int place : new int[] {-600, 1099}) {
                Edges.told("x " + place, x, x.hole(digger, place, 3, 5, 0), number);
                due("x " + place, x.spot(number, 0, 0), place);
                number++;
                Edges.told("y " + place, x, x.hole(digger, 3, place, 5, 0), number);
                due("y " + place, x.spot(number, 0, 1), place);
                number++;
            }
            for (int place : new int[] {-601, 1100, MAX, MIN}) {
                Edges.told("x " + place, x, x.hole(digger, place, 3, 5, 0), -1);
                Edges.told("y " + place, x, x.hole(digger, 3, place, 5, 0), -1);
            }
            due("count", x.count(0), number);
        }
    }

    private static void depths() {
        Edges.says("a DEPTH (0 .. 200), known from a WEEK on");
        PostHouses x = new PostHouses();
        Edges.told("least", x, x.hole(0, 10, 10, 0, 7), 0);
        Edges.told("most", x, x.hole(0, 90, 90, 200, 7), 1);
        for (int depth : new int[] {-1, 201, MAX, MIN}) {
            Edges.told("depth " + depth, x, x.hole(0, 5, 5, depth, 0), -1);
            Edges.told("retold " + depth, x, x.retell(0, depth, 0), -1);
        }
        due("least", x.spot(0, 7, 3), 0);
        due("most", x.spot(1, 7, 3), 200);
        due("the week ahead", x.spot(1, 6, 0), NOTHING);
        due("the week ahead", x.spot(1, 6, 2), NONE);
        due("the week ahead", x.spot(1, 6, 3), NONE);
        due("the week ahead", x.spot(1, 6, 4), 0);
        due("the week ahead", x.led(1, 6, 0), 0);
        due("the week", x.spot(1, 7, 4), 1);
        due("the week", x.led(1, 7, 0), 4);
        Edges.told("retold least", x, x.retell(1, 0, 8), 1);
        Edges.told("retold most", x, x.retell(0, 200, 8), 2);
        due("retold least", x.spot(1, 8, 3), 0);
        due("retold most", x.spot(0, 8, 3), 200);
        due("count", x.count(0), 2);
        due("count", x.count(1), 2);
    }

    private static void retold() {
        Edges.says("RETOLD, 60 at most: another DEPTH of a HOLE, known from a WEEK on");
        PostHouses x = Edges.book(10, 10, 90, 90);
        for (int i = 1; i <= 60; i++) {
            Edges.told("retell", x, x.retell(1, i, 0), i);
            due("count", x.count(1), i);
            due("the last of them", x.spot(1, 0, 3), i);
        }
        Edges.told("one more", x, x.retell(0, 99, 0), -5);
        due("count", x.count(1), 60);
        due("of the other one none was told", x.spot(0, 400, 3), 30);
        Edges.says("of those known the one told last counts");
        x = Edges.book(10, 10);
        x.retell(0, 50, 20);
        x.retell(0, 40, 10);
        x.retell(0, 60, 30);
        int[][] weeks = {{9, 30}, {10, 40}, {19, 40}, {20, 40}, {29, 40}, {30, 60}, {400, 60}};
        for (int[] week : weeks) {
            due("in week " + week[0], x.spot(0, week[0], 3), week[1]);
        }
        x = new PostHouses();
        x.hole(0, 10, 10, 30, 50);
        x.retell(0, 70, 0);
        due("not known yet", x.spot(0, 49, 3), NONE);
        due("known before the hole was", x.spot(0, 50, 3), 70);
    }

    private static void struck() {
        Edges.says("STRUCK: a HOLE is none, known from a WEEK on (the earliest told).");
        PostHouses x = Edges.book(10, 10, 90, 90);
        Edges.told("strike", x, x.strike(0, 300), 0);
        due("the week ahead", x.spot(0, 299, 4), 1);
        due("the week", x.spot(0, 300, 4), 0);
        Edges.told("later again", x, x.strike(0, 301), 0);
        due("the week still", x.spot(0, 300, 4), 0);
        Edges.told("the same", x, x.strike(0, 300), 0);
        Edges.told("earlier", x, x.strike(0, 200), 0);
        due("the week ahead", x.led(0, 199, 0), 4);
        due("the week", x.led(0, 200, 0), 0);
        Edges.told("the last week", x, x.strike(1, 400), 0);
        due("the week ahead", x.spot(1, 399, 3), 30);
        due("the last week", x.spot(1, 400, 3), NONE);
        due("the last week", x.spot(1, 400, 0), NOTHING);
        due("the last week", x.spot(1, 400, 1), NOTHING);
        Edges.told("the first week", x, x.strike(1, 0), 0);
        due("the first week", x.spot(1, 0, 2), NONE);
        due("it keeps its number", x.count(0), 2);
        Edges.told("it can be told of", x, x.retell(1, 5, 0), 1);
        Edges.told("it can be told of", x, x.date(1, 5, 5, 0), 1);
        Edges.told("it can be told of", x, x.cut(1, 0, 0), 1);
        x = new PostHouses();
        x.hole(0, 10, 10, 30, 50);
        x.strike(0, 20);
        due("struck before it was known", x.spot(0, 50, 4), 0);
    }

    /** What the fourth PLACE of three posts, at 120, 140, is with one trench. */
    private static int stateWith(int x, int y, int u, int v) {
        PostHouses book = Edges.kinds(Edges.book(100, 100, 120, 100, 100, 140), Edges.ELL);
        book.trench(x, y, u, v, 0);
        return book.place(0, 0, 1, 1);
    }

    private static void trenches() {
        Edges.says("TRENCHES, 20 at most: from x, y to u, v, known from a WEEK on");
        PostHouses x = Edges.kinds(Edges.book(100, 100, 120, 100, 100, 140), Edges.ELL);
        Edges.told("all of the field", x, x.trench(0, 0, 499, 499, 30), 1);
        due("the week ahead", x.place(29, 0, 1, 1), -2);
        due("the week", x.place(30, 0, 1, 1), -4);
        due("the last week", x.place(400, 0, 1, 1), -4);
        int[] bad = {-1, 500, MAX, MIN};
        for (int n : bad) {
            Edges.told("x " + n, x, x.trench(n, 0, 499, 499, 0), -1);
            Edges.told("y " + n, x, x.trench(0, n, 499, 499, 0), -1);
            Edges.told("u " + n, x, x.trench(0, 0, n, 499, 0), -1);
            Edges.told("v " + n, x, x.trench(0, 0, 499, n, 0), -1);
        }
        Edges.told("u below x", x, x.trench(5, 0, 4, 9, 0), -1);
        Edges.told("v below y", x, x.trench(0, 5, 9, 4, 0), -1);
        due("count", x.count(2), 1);
        Edges.told("one place", x, x.trench(0, 0, 0, 0, 0), 2);
        Edges.told("the last place", x, x.trench(499, 499, 499, 499, 0), 3);
        for (int i = 4; i <= 20; i++) {
            Edges.told("trench", x, x.trench(200, 200, 300, 300, 0), i);
        }
        Edges.told("one more", x, x.trench(0, 0, 499, 499, 0), -5);
        due("count", x.count(2), 20);
        due("it does not count", x.place(29, 0, 1, 1), -2);
    }

    private static void dug() {
        Edges.says("a place of the FIELD is DUG as known, if it lies in one that is known "
                + "(edges too)");
        due("the place alone", stateWith(120, 140, 120, 140), -4);
        due("its lower edges", stateWith(120, 140, 130, 150), -4);
        due("its upper edges", stateWith(110, 130, 120, 140), -4);
        due("its low x, high y", stateWith(120, 130, 130, 140), -4);
        due("its high x, low y", stateWith(110, 140, 120, 150), -4);
        due("behind it in x", stateWith(121, 0, 499, 499), -2);
        due("ahead of it in x", stateWith(0, 0, 119, 499), -2);
        due("behind it in y", stateWith(0, 141, 499, 499), -2);
        due("ahead of it in y", stateWith(0, 0, 499, 139), -2);
        PostHouses x = Edges.kinds(Edges.book(100, 100, 120, 100, 100, 140), Edges.ELL);
        x.trench(0, 0, 119, 499, 0);
        x.trench(121, 0, 499, 499, 0);
        due("between two", x.place(0, 0, 1, 1), -2);
        x.trench(120, 0, 120, 499, 5);
        due("in the third, not known yet", x.place(4, 0, 1, 1), -2);
        due("in the third", x.place(5, 0, 1, 1), -4);
        int[][] beside = {{499, 100, 479, 100, 499, 140}, {0, 100, 20, 100, 0, 140}};
        for (int[] b : beside) {
            x = Edges.kinds(Edges.book(b), Edges.ELL);
            x.trench(0, 0, 499, 499, 0);
            due("in the field", x.place(0, 0, 1, 1), -4);
        }
        x = Edges.kinds(Edges.book(480, 100, 460, 100, 480, 140),
                "kind{posts 2 to 3,step 20 to 20,apart 40 to 40,slack 0,miss 4}");
        x.trench(0, 0, 499, 499, 0);
        due("at 440", x.place(0, 0, 2, 0), -4);
        x = Edges.kinds(Edges.book(460, 100, 480, 100, 460, 140),
                "kind{posts 3 to 3,step 20 to 20,apart 40 to 40,slack 0,miss 4}");
        x.trench(0, 0, 499, 499, 0);
        due("at 500 there is no field", x.place(0, 0, 2, 0), -2);
        x = Edges.kinds(Edges.book(459, 100, 479, 100, 459, 140),
                "kind{posts 3 to 3,step 20 to 20,apart 40 to 40,slack 0,miss 4}");
        x.trench(0, 0, 499, 499, 0);
        due("as many may be missed", x.houses(0), 1);
        due("at 499 there is", x.place(0, 0, 2, 0), -4);
        x = Edges.kinds(Edges.book(39, 100, 19, 100, 39, 140),
                "kind{posts 3 to 3,step 20 to 20,apart 40 to 40,slack 0,miss 4}");
        x.trench(0, 0, 499, 499, 0);
        due("at -1 there is no field", x.place(0, 0, 2, 0), -2);
    }

    private static void ploughed() {
        Edges.says("PLOUGHED, 20 at most: from x, y to u, v a depth (0 .. 100)");
        PostHouses x = Edges.book(100, 100, 300, 300);
        Edges.told("least", x, x.plough(100, 100, 100, 100, 0), 1);
        due("least", x.spot(0, 0, 3), 30);
        Edges.told("most", x, x.plough(100, 100, 100, 100, 100), 2);
        due("most", x.spot(0, 0, 3), 130);
        for (int depth : new int[] {-1, 101, MAX, MIN}) {
            Edges.told("depth " + depth, x, x.plough(0, 0, 499, 499, depth), -1);
        }
        for (int n : new int[] {-1, 500, MAX, MIN}) {
            Edges.told("x " + n, x, x.plough(n, 0, 499, 499, 5), -1);
            Edges.told("y " + n, x, x.plough(0, n, 499, 499, 5), -1);
            Edges.told("u " + n, x, x.plough(0, 0, n, 499, 5), -1);
            Edges.told("v " + n, x, x.plough(0, 0, 499, n, 5), -1);
        }
        Edges.told("u below x", x, x.plough(5, 0, 4, 9, 5), -1);
        Edges.told("v below y", x, x.plough(0, 5, 9, 4, 5), -1);
        due("count", x.count(3), 2);
        due("nothing at the other place", x.spot(1, 0, 3), 30);
        for (int i = 3; i <= 20; i++) {
            Edges.told("plough", x, x.plough(0, 0, 1, 1, 5), i);
        }
        Edges.told("one more", x, x.plough(0, 0, 499, 499, 5), -5);
        due("count", x.count(3), 20);
        due("it does not count", x.spot(1, 0, 3), 30);
        Edges.says("at a place the greatest of those that have it counts, 0 without");
        int[][] with = {{100, 100, 100, 100}, {100, 100, 200, 200}, {0, 0, 100, 100},
            {100, 0, 200, 100}, {0, 100, 100, 200}, {0, 0, 499, 499}};
        int[][] without = {{101, 0, 499, 499}, {0, 0, 99, 499}, {0, 101, 499, 499},
            {0, 0, 499, 99}};
        x = Edges.book(100, 100);
        for (int[] plot : without) {
            x.plough(plot[0], plot[1], plot[2], plot[3], 50);
            due("beside it", x.spot(0, 0, 3), 30);
        }
        int[] depths = {7, 5, 20, 19, 20, 21};
        int[] greatest = {7, 7, 20, 20, 20, 21};
        for (int i = 0; i < with.length; i++) {
            int[] plot = with[i];
            x.plough(plot[0], plot[1], plot[2], plot[3], depths[i]);
            due("plot " + i, x.spot(0, 0, 3), 30 + greatest[i]);
            due("plot " + i, x.spot(0, 400, 3), 30 + greatest[i]);
        }
    }

    private static void frameIs(PostHouses x, int turn, int dx, int dy, int hits) {
        due("turn", x.frame(0, 0), turn);
        due("dx", x.frame(0, 1), dx);
        due("dy", x.frame(0, 2), dy);
        due("hits", x.frame(0, 3), hits);
    }

    /** A book of HOLES of both diggers without any error: first those of the first one. */
    private static PostHouses frames(int error, int[] first, int... second) {
        PostHouses x = Edges.book(first);
        for (int i = 0; i + 1 < second.length; i += 2) {
            x.hole(1, second[i], second[i + 1], 30, 0);
        }
        x.error(error);
        return x;
    }

    private static int[] at(int... numbers) {
        return numbers;
    }

    private static void turns() {
        Edges.says("by a TURN t 0 .. 3 (t times from x, y to 499 - y, x)");
        int[][] turned = {{10, 70}, {429, 10}, {489, 429}, {70, 489}};
        for (int turn = 0; turn < 4; turn++) {
            PostHouses x = frames(0, turned[turn], 10, 70);
            frameIs(x, turn, 0, 0, 1);
            due("joined", x.spot(1, 0, 2), 0);
            due("x", x.spot(1, 0, 0), turned[turn][0]);
            due("y", x.spot(1, 0, 1), turned[turn][1]);
        }
        // Out of the field's edges it goes as well: -600 to 1099 and back.
        PostHouses x = frames(0, at(1099, -600), -600, -600);
        frameIs(x, 1, 0, 0, 1);
        due("x", x.spot(1, 0, 0), 1099);
        due("y", x.spot(1, 0, 1), -600);
    }

    private static void shifts() {
        Edges.says("then a shift dx, dy (-20 .. 20 each)");
        int[][] ways = {{20, 0}, {-20, 0}, {0, 20}, {0, -20}, {20, 20}, {-20, -20}, {20, -20}};
        for (int[] way : ways) {
            PostHouses x = frames(0, at(100 + way[0], 150 + way[1]), 100, 150);
            frameIs(x, 0, way[0], way[1], 1);
            due("x", x.spot(1, 0, 0), 100 + way[0]);
            due("y", x.spot(1, 0, 1), 150 + way[1]);
            int farX = 100 + way[0] + Integer.signum(way[0]);
            int farY = 150 + way[1] + Integer.signum(way[1]);
            x = frames(0, at(farX, farY), 100, 150);
            frameIs(x, 0, 0, 0, 0);
            due("x", x.spot(1, 0, 0), 100);
        }
    }

    private static void error() {
        Edges.says("not more than ERROR (0 .. 5; 2 at first) from it in x and in y");
        PostHouses x = Edges.book(122, 150);
        x.hole(1, 100, 150, 30, 0);
        frameIs(x, 0, 20, 0, 1);
        x = Edges.book(123, 150);
        x.hole(1, 100, 150, 30, 0);
        frameIs(x, 0, 0, 0, 0);
        x = Edges.book(100, 172);
        x.hole(1, 100, 150, 30, 0);
        frameIs(x, 0, 0, 20, 1);
        x = Edges.book(100, 127);
        x.hole(1, 100, 150, 30, 0);
        frameIs(x, 0, 0, 0, 0);
        for (int error = 0; error <= 5; error++) {
            frameIs(frames(error, at(120 + error, 150), 100, 150), 0, 20, 0, 1);
            frameIs(frames(error, at(121 + error, 150), 100, 150), 0, 0, 0, 0);
            frameIs(frames(error, at(80 - error, 150), 100, 150), 0, -20, 0, 1);
            frameIs(frames(error, at(79 - error, 150), 100, 150), 0, 0, 0, 0);
            frameIs(frames(error, at(100, 170 + error), 100, 150), 0, 0, 20, 1);
            frameIs(frames(error, at(100, 171 + error), 100, 150), 0, 0, 0, 0);
            frameIs(frames(error, at(100, 130 - error), 100, 150), 0, 0, -20, 1);
            frameIs(frames(error, at(100, 129 - error), 100, 150), 0, 0, 0, 0);
            frameIs(frames(error, at(100 + error, 150 - error), 100, 150), 0, 0, 0, 1);
        }
        Edges.says("`int error(int n)`: ERROR: what it was; -1.");
        x = new PostHouses();
        Edges.told("most", x, x.error(5), 2);
        for (int n : new int[] {-1, 6, MAX, MIN}) {
            Edges.told("error " + n, x, x.error(n), -1);
        }
        Edges.told("least", x, x.error(0), 5);
        Edges.told("the same", x, x.error(0), 0);
        Edges.told("once more", x, x.error(3), 0);
        Edges.told("once more", x, x.error(2), 3);
    }

    private static void hitsAsKnown() {
        Edges.says("(all known, none STRUCK as known)");
        PostHouses x = new PostHouses();
        x.hole(0, 105, 150, 30, 10);
        x.hole(1, 100, 150, 30, 20);
        x.error(0);
        int[][] weeks = {{19, 0}, {20, 1}, {29, 1}, {30, 0}};
        x.strike(0, 30);
        for (int[] week : weeks) {
            due("in " + week[0], x.frame(week[0], 3), week[1]);
            due("in " + week[0], x.frame(week[0], 1), 5 * week[1]);
        }
        x.strike(1, 25);
        due("the other one is struck", x.frame(24, 3), 1);
        due("the other one is struck", x.frame(25, 3), 0);
        x = new PostHouses();
        x.hole(1, 105, 150, 30, 10);
        x.hole(0, 100, 150, 30, 20);
        due("not known yet", x.frame(19, 3), 0);
        due("known", x.frame(20, 3), 1);
        // With no hits any more it is the first frame, whatever it was in another week.
        x = frames(0, at(349, 100), 100, 150);
        x.strike(0, 5);
        frameIs(x, 1, 0, 0, 1);
        for (int what = 0; what <= 3; what++) {
            due("what " + what, x.frame(5, what), 0);
        }
        due("its place as told", x.spot(1, 5, 0), 100);
        Edges.says("HITS: HOLES of DIGGER 1 for which there is one of DIGGER 0");
        frameIs(frames(2, at(100, 100, 101, 101, 102, 102), 101, 101), 0, 0, 0, 1);
        frameIs(frames(2, at(100, 100), 101, 101, 102, 102, 99, 98), 0, 0, 0, 3);
        frameIs(frames(2, at(), 101, 101, 102, 102), 0, 0, 0, 0);
        frameIs(frames(2, at(101, 101, 102, 102)), 0, 0, 0, 0);
    }

    private static void takenFrame() {
        Edges.says("That FRAME is taken which has most HITS");
        frameIs(frames(0, at(100, 150, 120, 170, 320, 170), 100, 150, 300, 150), 0, 20, 20, 2);
        Edges.says("of alike ones that of the least |dx| + |dy|");
        frameIs(frames(0, at(103, 153, 100, 155), 100, 150), 0, 0, 5, 1);
        frameIs(frames(0, at(97, 147, 105, 150), 100, 150), 0, 5, 0, 1);
        // The one of a later turn has a shorter way.
        frameIs(frames(0, at(101, 150, 349, 100), 100, 150), 1, 0, 0, 1);
        frameIs(frames(0, at(102, 150, 399, 350), 100, 150), 2, 0, 1, 1);
        Edges.says("then the lower t");
        frameIs(frames(0, at(150, 399, 349, 100), 100, 150), 1, 0, 0, 1);
        frameIs(frames(0, at(103, 150, 349, 97), 100, 150), 0, 3, 0, 1);
        frameIs(frames(0, at(399, 346, 153, 399), 100, 150), 2, 0, -3, 1);
        Edges.says("then the lower dx");
        frameIs(frames(0, at(103, 150, 97, 150), 100, 150), 0, -3, 0, 1);
        frameIs(frames(0, at(97, 150, 103, 150), 100, 150), 0, -3, 0, 1);
        frameIs(frames(0, at(99, 148, 98, 151), 100, 150), 0, -2, 1, 1);
        frameIs(frames(0, at(98, 151, 99, 148), 100, 150), 0, -2, 1, 1);
        Edges.says("then the lower dy.");
        frameIs(frames(0, at(102, 153, 102, 147), 100, 150), 0, 2, -3, 1);
        frameIs(frames(0, at(102, 147, 102, 153), 100, 150), 0, 2, -3, 1);
        frameIs(frames(0, at(100, 153, 100, 147), 100, 150), 0, 0, -3, 1);
    }

    private static void frameAsked() {
        Edges.says("what 0 TURN, 1 dx, 2 dy, 3 HITS. NOTHING (-1000) for others.");
        PostHouses x = frames(0, at(346, 102), 100, 150);
        frameIs(x, 1, -3, 2, 1);
        for (int what : new int[] {-1, 4, MAX, MIN}) {
            due("what " + what, x.frame(0, what), NOTHING);
        }
    }

    private static void spots() {
        Edges.says("SPOTS as known: HOLES of DIGGER 0 and those of DIGGER 1 that don't HIT and "
                + "lie in the FIELD then");
        // The shift of 5, 0 carries them into the FIELD and out of it.
        PostHouses x = frames(0, at(205, 200, 305, 250), 200, 200, 300, 250, -5, 70, -6, 71, 494,
                72, 495, 73, 400, 400);
        frameIs(x, 0, 5, 0, 2);
        int[][] want = {{205, 0}, {305, 1}, {0, 4}, {-1, NONE}, {499, 6}, {500, NONE}, {405, 8}};
        for (int i = 0; i < want.length; i++) {
            due("x of " + (i + 2), x.spot(i + 2, 0, 0), want[i][0]);
            due("spot of " + (i + 2), x.spot(i + 2, 0, 2), want[i][1]);
            due("is one " + (i + 2), x.spot(i + 2, 0, 4), want[i][1] == i + 2 ? 1 : 0);
        }
        Edges.says("(all known, none STRUCK; of DIGGER 0 those that lie in the FIELD)");
        x.strike(8, 3);
        due("struck", x.spot(8, 2, 4), 1);
        due("struck", x.spot(8, 3, 4), 0);
        x.strike(1, 4);
        due("the one that hit it is a spot then", x.spot(3, 3, 2), 1);
        due("the one that hit it is a spot then", x.spot(3, 4, 2), 3);
    }

    private static void joined() {
        Edges.says("A HOLE of DIGGER 1 that HITS is JOINED to the lowest SPOT that it hits");
        PostHouses x = frames(2, at(102, 152, 100, 150, 98, 148), 100, 150, 103, 153);
        frameIs(x, 0, 0, 0, 2);
        due("the lowest, not the nearest", x.spot(3, 0, 2), 0);
        due("the only one", x.spot(4, 0, 2), 0);
        x.strike(0, 5);
        due("the lowest there is", x.spot(3, 5, 2), 1);
        x = frames(2, at(0, 150), -2, 150);
        due("it lies out of the field", x.spot(1, 0, 0), -2);
        due("joined even so", x.spot(1, 0, 2), 0);
        due("led with its spot", x.led(1, 0, 0), 4);
        Edges.says("(to a HOLE of DIGGER 0 out of the FIELD: to none)");
        x = frames(2, at(-1, 150), 1, 150);
        due("it lies in the field", x.spot(1, 0, 0), 1);
        due("joined to none", x.spot(1, 0, 2), NONE);
        due("no spot either", x.spot(1, 0, 4), 0);
        due("no depth", x.spot(1, 0, 3), NONE);
        due("led as no spot", x.led(1, 0, 0), 1);
        x = frames(2, at(-1, 150, 1, 151), 0, 150);
        due("joined to the spot that it hits too", x.spot(2, 0, 2), 1);
    }

    private static void fullDepth() {
        Edges.says("FULL DEPTH of a SPOT: the greatest DEPTH of it and of those JOINED to it, and "
                + "what is PLOUGHED at its place.");
        PostHouses x = new PostHouses();
        x.hole(0, 100, 150, 30, 0);
        due("its own", x.spot(0, 0, 3), 30);
        x.hole(1, 102, 152, 29, 1);
        due("a shallower one", x.spot(0, 1, 3), 30);
        x.hole(1, 98, 150, 31, 2);
        due("a deeper one", x.spot(0, 2, 3), 31);
        due("not known yet", x.spot(0, 1, 3), 30);
        due("of the joined one the same", x.spot(1, 2, 3), 31);
        x.retell(1, 200, 3);
        due("retold", x.spot(0, 3, 3), 200);
        x.strike(1, 4);
        due("struck", x.spot(0, 4, 3), 31);
        x.plough(101, 0, 499, 499, 50);
        due("at the joined one's place alone", x.spot(0, 3, 3), 200);
        x.plough(100, 150, 100, 150, 100);
        due("the most", x.spot(0, 3, 3), 300);
        x.retell(0, 0, 5);
        x.strike(2, 5);
        due("the plough's alone", x.spot(0, 5, 3), 100);
    }

    private static void spotAsked() {
        Edges.says("NOTHING without HOLE, WEEK, what, and of 0, 1 if it isn't known or is STRUCK.");
        PostHouses x = new PostHouses();
        x.hole(0, 100, 150, 30, 5);
        x.strike(0, 7);
        for (int what : new int[] {-1, 5, MAX, MIN}) {
            due("what " + what, x.spot(0, 5, what), NOTHING);
        }
        for (int week : new int[] {4, 7}) {
            due("x in " + week, x.spot(0, week, 0), NOTHING);
            due("y in " + week, x.spot(0, week, 1), NOTHING);
            due("spot in " + week, x.spot(0, week, 2), NONE);
            due("depth in " + week, x.spot(0, week, 3), NONE);
            due("is one in " + week, x.spot(0, week, 4), 0);
        }
        int[] want = {100, 150, 0, 30, 1};
        for (int what = 0; what < want.length; what++) {
            due("what " + what, x.spot(0, 6, what), want[what]);
        }
        due("hole", x.spot(1, 6, 2), NOTHING);
        due("hole", x.spot(-1, 6, 2), NOTHING);
    }
}
