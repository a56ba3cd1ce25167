/** The edges of terms IV and V and of promises 19 to 25: CUTS, MEETing, PHASES, DATES, STARTS. */
public final class PhaseEdgesTest {
    private static final int NONE = Edges.NONE;
    private static final int MAX = Edges.MAX;
    private static final int MIN = Edges.MIN;

    public static void main(String[] args) {
        cuts();
        later();
        meet();
        meetFlat();
        pairAsked();
        phasesOfNone();
        higherAndUnlike();
        fewest();
        firstRow();
        rivals();
        noWay();
        thirteen();
        phaseAsked();
        dates();
        startInDates();
        startsOfTwo();
        startsAtTheirEnds();
        noStarts();
        sure();
        most();
        standsAsked();
        Edges.end();
    }

    private static void due(String call, int got, int want) {
        Edges.due(call, got, want);
    }

    /** So many houses of three posts each, none near another: house i has holes 3 i .. 3 i + 2. */
    private static PostHouses apart(int count) {
        return apart(count, 30);
    }

    private static PostHouses apart(int count, int life) {
        int[] corners = new int[2 * count];
        for (int i = 0; i < count; i++) {
            corners[2 * i] = 10 + i % 4 * 110;
            corners[2 * i + 1] = 10 + i / 4 * 120;
        }
        PostHouses x = Edges.ells(corners);
        return Edges.kinds(x, Edges.ELL.replace("}", ",life " + life + "}"));
    }

    /** House g is later than house h. */
    private static void later(PostHouses x, int g, int h) {
        x.cut(3 * g, 3 * h + 1, 0);
    }

    private static PostHouses chain(int count, int life) {
        PostHouses x = apart(count, life);
        for (int i = 1; i < count; i++) {
            later(x, i, i - 1);
        }
        return x;
    }

    private static void cuts() {
        Edges.says("CUTS, 60 at most: a HOLE cuts another one, known from a WEEK on.");
        PostHouses x = apart(2);
        Edges.told("itself", x, x.cut(0, 0, 0), -4);
        due("none", x.count(5), 0);
        for (int i = 1; i <= 60; i++) {
            Edges.told("cut", x, x.cut(0, 1, 0), i);
            due("count", x.count(5), i);
        }
        Edges.told("one more", x, x.cut(3, 0, 0), -5);
        due("count", x.count(5), 60);
        due("it does not count", x.pair(400, 1, 0, 1), 0);
        x = apart(2);
        Edges.told("cut", x, x.cut(3, 0, 9), 1);
        due("the week ahead", x.pair(8, 1, 0, 1), 0);
        due("the week", x.pair(9, 1, 0, 1), 1);
        Edges.told("the other way", x, x.cut(0, 3, 9), 2);
        due("the other way", x.pair(9, 0, 1, 1), 1);
        Edges.told("both of one house", x, x.cut(0, 1, 0), 3);
        due("the week ahead still", x.pair(8, 0, 1, 1), 0);
    }

    private static void later() {
        Edges.says("g is LATER than h, if a SPOT of g (or a HOLE JOINED to it) cuts one of h, as "
                + "known.");
        for (int by = 0; by < 3; by++) {
            for (int of = 0; of < 3; of++) {
                PostHouses x = apart(3);
                x.cut(3 + by, of, 0);
                due("later", x.pair(0, 1, 0, 1), 1);
                due("not the other way", x.pair(0, 0, 1, 1), 0);
                due("not the third", x.pair(0, 1, 2, 1), 0);
            }
        }
        // Hole 6 is joined to hole 0, hole 7 to hole 4, hole 8 is alone.
        for (int sort = 0; sort < 5; sort++) {
            PostHouses x = apart(2);
            x.hole(1, 11, 11, 5, 2);
            x.hole(1, 139, 11, 5, 2);
            x.hole(1, 400, 400, 5, 2);
            int[][] cut = {{6, 3}, {6, 7}, {2, 7}, {8, 3}, {6, 8}};
            x.cut(cut[sort][0], cut[sort][1], 0);
            due("joined: " + sort, x.pair(2, 0, 1, 1), sort < 3 ? 1 : 0);
            due("not the other way", x.pair(2, 1, 0, 1), 0);
            due("not known yet", x.pair(1, 0, 1, 1), 0);
            x.strike(cut[sort][0] == 2 ? 7 : cut[sort][0], 3);
            due("struck", x.pair(3, 0, 1, 1), 0);
        }
        PostHouses x = apart(2);
        x.cut(0, 3, 0);
        x.strike(1, 1);
        due("the house is none any more", x.pair(1, 0, 1, 1), NONE);
    }

    private static int meetOf(int... corners) {
        return Edges.smalls(corners).pair(0, 0, 1, 0);
    }

    private static void meet() {
        Edges.says("Two MEET, if their outlines have a point in common");
        due("an edge in common", meetOf(100, 100, 130, 110), 1);
        due("a gap of one in x", meetOf(100, 100, 131, 110), 0);
        due("an edge in common", meetOf(100, 100, 110, 150), 1);
        due("a gap of one in y", meetOf(100, 100, 110, 151), 0);
        due("to the left", meetOf(131, 100, 100, 110), 0);
        due("above", meetOf(110, 151, 100, 100), 0);
        due("across", meetOf(100, 100, 110, 110), 1);
        // The corner of a slant one lies on the edge of the other one, then one beside it.
        for (int off = 0; off <= 1; off++) {
            PostHouses x = Edges.smalls(100, 100);
            int[] other = {170, 95, 188, 119, 130, 125, 148, 149};
            for (int i = 0; i < 8; i += 2) {
                x.hole(0, other[i] + off, other[i + 1], 30, 0);
            }
            due("two", x.explained(0, 0), 2);
            due("a corner on an edge", x.pair(0, 0, 1, 0), 1 - off);
            due("and the other way", x.pair(0, 1, 0, 0), 1 - off);
        }
        // Slant ones whose boxes overlap: one edge in common, then none.
        int[] slant = {200, 100, 218, 124, 160, 130, 178, 154};
        int[][] ways = {{26, 18, 1}, {2, 36, 1}, {25, 19, 0}, {25, 34, 0}};
        for (int[] way : ways) {
            PostHouses x = Edges.book(slant);
            for (int i = 0; i < 8; i += 2) {
                x.hole(0, slant[i] + way[0], slant[i + 1] + way[1], 30, 0);
            }
            Edges.kinds(x, Edges.SMALL);
            due("two", x.explained(0, 0), 2);
            due("slant ones", x.pair(0, 0, 1, 0), way[2]);
        }
        meetByLittle();
        Edges.says("p, p + (n - 1) v, p + (n - 1) v + (rows - 1) w, p + (rows - 1) w, and all "
                + "within");
        // Their fourth corners, both unseen, lie at one place, then beside one another.
        int[][] offs = {{0, 0}, {1, 0}, {0, 1}};
        for (int[] off : offs) {
            PostHouses x = Edges.kinds(Edges.book(100, 100, 120, 100, 100, 140, 140 + off[0],
                    180 + off[1], 120 + off[0], 180 + off[1], 140 + off[0], 140 + off[1]),
                    Edges.ELL);
            due("two", x.explained(0, 0), 2);
            due("corners", x.pair(0, 0, 1, 0), off[0] + off[1] == 0 ? 1 : 0);
        }
        // One within the other, far from its edges.
        PostHouses x = Edges.book(100, 100, 200, 100, 100, 300, 200, 300);
        Edges.small(x, 140, 170);
        Edges.kinds(x, Edges.SMALL + ";kind{posts 2 to 2,step 100 to 100,apart 200 to 200}");
        due("two", x.explained(0, 0), 2);
        due("within", x.pair(0, 0, 1, 0), 1);
        due("about it", x.pair(0, 1, 0, 0), 1);
        longAndWide();
    }

    /** Slant ones that touch, or are parted by no more than a 25th of one. */
    private static void meetByLittle() {
        int[][] ways = {{31, 17, 1}, {14, 22, 0}, {-31, -17, 1}, {-14, -22, 0}};
        for (int turned = 0; turned < 2; turned++) {
            for (int[] way : ways) {
                int[] slant = turned == 0 ? new int[] {7, 24, -48, 14} : new int[] {48, 14, -7, 24};
                int wx = turned == 0 ? way[0] : -way[0];
                PostHouses x = new PostHouses();
                for (int i = 0; i < 8; i++) {
                    int q = i & 1;
                    int r = i >> 1 & 1;
                    int on = i >> 2;
                    x.hole(0, 250 + q * slant[0] + r * slant[2] + on * wx,
                            250 + q * slant[1] + r * slant[3] + on * way[1], 30, 0);
                }
                String sides = turned == 0 ? "step 25 to 25,apart 50 to 50" : "step 50 to 50,"
                        + "apart 25 to 25";
                Edges.kinds(x, "kind{posts 2 to 2,slack 0," + sides + "}");
                due("two", x.explained(0, 0), 2);
                due("by " + way[0] + ", " + way[1] + ", turned " + turned, x.pair(0, 0, 1, 0),
                        way[2]);
                due("the other way", x.pair(0, 1, 0, 0), way[2]);
            }
        }
    }

    /** Three posts and three rows go from 100 to 140 and from 100 to 180. */
    private static void longAndWide() {
        int[][] beside = {{140, 120, 1}, {141, 120, 0}, {105, 180, 1}, {105, 181, 0}};
        for (int[] b : beside) {
            PostHouses x = new PostHouses();
            for (int i = 0; i < 9; i++) {
                x.hole(0, 100 + i / 3 * 20, 100 + i % 3 * 40, 30, 0);
            }
            Edges.small(x, b[0], b[1]);
            x.trench(0, 0, 499, 499, 0);
            Edges.kinds(x, Edges.SMALL + ";kind{rows 3,posts 3 to 3,step 20 to 20,apart 40 to 40,"
                    + "slack 0}");
            due("two", x.explained(0, 0), 2);
            due("the long one first", x.house(0, 0, 5), 9);
            due("at " + b[0] + ", " + b[1], x.pair(0, 0, 1, 0), b[2]);
        }
    }

    private static void meetFlat() {
        Edges.says("have a point in common");
        String flat = "kind{posts 2 to 2,step 10 to 10,apart 5 to 5,slack 5}";
        int[][] rows = {{16, 200, 0}, {15, 201, 0}, {14, 206, 0}, {40, 200, 0}};
        for (int[] r : rows) {
            PostHouses x = Edges.kinds(Edges.book(200, 200, 205, 200, 210, 200, 215, 200,
                    215 + r[0], r[1], 220 + r[0], r[1], 225 + r[0], r[1], 230 + r[0], r[1]), flat);
            due("two of 15 long", x.explained(0, 0), 2);
            due("a way of " + r[0], x.pair(0, 0, 1, 0), r[2]);
        }
        // A flat one across a house, at its edge, and beside it.
        int[][] places = {{105, 1}, {130, 1}, {131, 0}, {85, 1}, {84, 0}};
        for (int[] p : places) {
            PostHouses x = Edges.smalls(100, 100);
            for (int i = 0; i < 4; i++) {
                x.hole(0, p[0] + 5 * i, 125, 30, 0);
            }
            Edges.kinds(x, Edges.SMALL + ";" + flat);
            due("two", x.explained(0, 0), 2);
            due("flat at " + p[0], x.pair(0, 0, 1, 0), p[1]);
        }
    }

    private static void pairAsked() {
        Edges.says("Of two EXPLAINED HOUSES: 1 they MEET (what 0), the first is LATER (1); else 0; "
                + "NONE without, and of one with itself.");
        PostHouses x = Edges.smalls(100, 100, 110, 110, 300, 300);
        x.hole(0, 330, 400, 30, 0);
        x.cut(4, 0, 0);
        due("four houses", x.houses(0), 4);
        due("three explained", x.explained(0, 0), 3);
        int[][] want = {{0, 1, 1, 0}, {1, 0, 1, 1}, {0, 2, 0, 0}, {2, 0, 0, 0}, {1, 2, 0, 0}};
        for (int[] w : want) {
            due(w[0] + " and " + w[1] + " meet", x.pair(0, w[0], w[1], 0), w[2]);
            due(w[0] + " later than " + w[1], x.pair(0, w[0], w[1], 1), w[3]);
        }
        for (int house = 0; house < 3; house++) {
            due("itself", x.pair(0, house, house, 0), NONE);
            due("itself", x.pair(0, house, house, 1), NONE);
            for (int other : new int[] {-1, 3, 4, 24, MAX, MIN}) {
                due("none " + other, x.pair(0, house, other, 0), NONE);
                due("none " + other, x.pair(0, other, house, 1), NONE);
            }
        }
        for (int what : new int[] {-1, 2, 32, MAX, MIN}) {
            due("what " + what, x.pair(0, 0, 1, what), NONE);
        }
        // In another week houses 0 and 1 are others, which don't meet.
        x = Edges.smalls(100, 100, 110, 110);
        x.strike(4, 5);
        x.strike(5, 5);
        x.hole(0, 300, 300, 30, 5);
        x.hole(0, 330, 300, 30, 5);
        x.hole(0, 300, 350, 30, 5);
        due("they meet", x.pair(4, 0, 1, 0), 1);
        due("two others", x.explained(5, 0), 2);
        due("these don't", x.pair(5, 0, 1, 0), 0);
        due("these don't", x.phases(5, 0), 1);
        due("they meet still", x.pair(4, 1, 0, 0), 1);
    }

    private static void phasesAre(PostHouses x, int count, int rivals, int... row) {
        due("phases", x.phases(0, 0), count);
        due("rivals", x.phases(0, 1), rivals);
        for (int house = 0; house < row.length; house++) {
            due("phase of " + house, x.phase(0, house), row[house]);
        }
    }

    private static void phasesOfNone() {
        Edges.says("PHASES: how many (what 0; 0 without HOUSES), RIVALS (1; 1 without HOUSES). NONE "
                + "without a way, WEEK, what.");
        phasesAre(new PostHouses(), 0, 1, NONE);
        PostHouses x = apart(1);
        phasesAre(x, 1, 1, 0, NONE);
        x.strike(0, 0);
        phasesAre(x, 0, 1, NONE);
        for (int what : new int[] {-1, 2, MAX, MIN}) {
            due("what " + what, x.phases(0, what), NONE);
            due("what " + what, apart(2).phases(0, what), NONE);
        }
    }

    private static void higherAndUnlike() {
        Edges.says("so that LATER ones have higher ones than those that they are LATER than, and "
                + "those that MEET have unlike ones");
        PostHouses x = apart(2);
        phasesAre(x, 1, 1, 0, 0);
        later(x, 0, 1);
        phasesAre(x, 2, 1, 1, 0);
        x = Edges.smalls(100, 100, 110, 110);
        phasesAre(x, 2, 2, 0, 1);
        x.cut(0, 4, 0);
        phasesAre(x, 2, 1, 1, 0);
        x = chain(4, 30);
        phasesAre(x, 4, 1, 0, 1, 2, 3);
        later(x, 3, 0);
        phasesAre(x, 4, 1, 0, 1, 2, 3);
    }

    /** Four in a row of which each meets the next: told as 0, 2, 3, 1. */
    private static PostHouses inRow() {
        return Edges.smalls(100, 100, 175, 121, 125, 107, 150, 114);
    }

    private static void fewest() {
        Edges.says("the fewest PHASES");
        PostHouses x = inRow();
        due("0 and 2 meet", x.pair(0, 0, 2, 0), 1);
        due("2 and 3 meet", x.pair(0, 2, 3, 0), 1);
        due("3 and 1 meet", x.pair(0, 3, 1, 0), 1);
        due("0 and 1 do not", x.pair(0, 0, 1, 0), 0);
        due("0 and 3 do not", x.pair(0, 0, 3, 0), 0);
        due("1 and 2 do not", x.pair(0, 1, 2, 0), 0);
        // 0, 0, .. would be the first as rows, but then there were three.
        phasesAre(x, 2, 2, 0, 1, 1, 0);
        x.cut(8, 0, 0);
        x.cut(4, 12, 0);
        phasesAre(x, 2, 1, 0, 1, 1, 0);
        x.cut(4, 0, 0);
        phasesAre(x, 2, 1, 0, 1, 1, 0);
        x.cut(4, 8, 0);
        phasesAre(x, 3, 1, 0, 2, 1, 0);
    }

    private static void firstRow() {
        Edges.says("of those alike the first as rows (HOUSES by number)");
        phasesAre(Edges.smalls(100, 100, 110, 110, 120, 120), 3, 6, 0, 1, 2);
        PostHouses x = Edges.smalls(100, 100, 110, 110, 120, 120, 300, 300);
        phasesAre(x, 3, 18, 0, 1, 2, 0);
        x.cut(0, 4, 0);
        phasesAre(x, 3, 9, 1, 0, 2, 0);
        x.cut(12, 0, 0);
        phasesAre(x, 3, 1, 1, 0, 2, 2);
    }

    private static void rivals() {
        Edges.says("RIVALS: how many such ways there are with as many PHASES (1000 at most).");
        for (int free = 0; free <= 11; free++) {
            PostHouses x = apart(2 + free);
            later(x, 0, 1);
            phasesAre(x, 2, Math.min(1000, 1 << free), 1, 0);
        }
        // Five in a chain; three with five ways each; three later than the third: two ways each.
        PostHouses x = chainOf(5, 11);
        later(x, 8, 2);
        later(x, 9, 2);
        later(x, 10, 2);
        phasesAre(x, 5, 1000, 0, 1, 2, 3, 4, 0, 0, 0, 3, 3, 3);
        // Seven in a chain; two with seven ways; one with five and one with four: 980.
        x = chainOf(7, 11);
        later(x, 9, 1);
        later(x, 10, 2);
        phasesAre(x, 7, 980, 0, 1, 2, 3, 4, 5, 6, 0, 0, 2, 3);
        // One with seven, two with six, one with four: 1008.
        x = chainOf(7, 11);
        later(x, 8, 0);
        later(x, 9, 0);
        later(x, 10, 2);
        phasesAre(x, 7, 1000, 0, 1, 2, 3, 4, 5, 6, 0, 1, 1, 3);
        // Three in a chain; five with three ways; two with two: 972.
        x = chainOf(3, 10);
        later(x, 8, 0);
        later(x, 9, 0);
        phasesAre(x, 3, 972, 0, 1, 2, 0, 0, 0, 0, 0, 1, 1);
    }

    private static PostHouses chainOf(int length, int count) {
        PostHouses x = apart(count);
        for (int i = 1; i < length; i++) {
            later(x, i, i - 1);
        }
        return x;
    }

    private static void noWay() {
        Edges.says("None, if there is no way.");
        PostHouses x = apart(3);
        later(x, 0, 1);
        later(x, 1, 2);
        phasesAre(x, 3, 1, 2, 1, 0);
        later(x, 2, 0);
        phasesAre(x, NONE, NONE, NONE, NONE, NONE);
        for (int house = 0; house < 3; house++) {
            due("start", x.start(0, house, 0), NONE);
            due("start", x.start(0, house, 1), NONE);
        }
        due("stands", x.stands(0, 0, 0), NONE);
        due("stands", x.stands(0, 0, 1), NONE);
        due("later even so", x.pair(0, 2, 0, 1), 1);
        due("explained even so", x.explained(0, 0), 3);
        x = apart(3);
        x.cut(0, 3, 0);
        x.cut(3, 0, 9);
        due("the week ahead", x.phases(8, 0), 2);
        due("the week", x.phases(9, 0), NONE);
        due("the third one, too", x.phase(9, 2), NONE);
    }

    private static void thirteen() {
        Edges.says("HOLES 0 .. 39 (40 at most)");
        PostHouses x = apart(13);
        due("thirteen of three", x.explained(0, 0), 13);
        phasesAre(x, 1, 1, 0, 0, 0, 0, 0, 0, 0, 0, 0, 0, 0, 0, 0);
        due("at most", x.stands(0, 100, 1), 13);
        x = chain(13, 1);
        phasesAre(x, 13, 1, 0, 1, 2, 3, 4, 5, 6, 7, 8, 9, 10, 11, 12);
        for (int house = 0; house < 13; house++) {
            startIs(x, 0, house, house, 1988 + house);
        }
        due("every second one", x.stands(0, 100, 1), 7);
        due("the last of them", x.stands(0, 2000, 1), 1);
        due("behind it", x.stands(0, 2001, 1), 0);
        x.hole(0, 250, 480, 30, 0);
        due("the fortieth alone", x.led(39, 0, 0), 4);
        due("thirteen still", x.explained(0, 0), 13);
        // The last hole of all is a house's.
        int[] corners = new int[26];
        for (int i = 0; i < 13; i++) {
            corners[2 * i] = 10 + i % 4 * 110;
            corners[2 * i + 1] = 10 + i / 4 * 120;
        }
        x = new PostHouses();
        x.hole(0, 250, 480, 30, 0);
        for (int i = 0; i < 13; i++) {
            x.hole(0, corners[2 * i], corners[2 * i + 1], 30, 0);
            x.hole(0, corners[2 * i] + 20, corners[2 * i + 1], 30, 0);
            x.hole(0, corners[2 * i], corners[2 * i + 1] + 40, 30, 0);
        }
        Edges.kinds(x, Edges.ELL);
        x.cut(39, 1, 1);
        x.cut(4, 39, 2);
        x.date(39, 700, 700, 3);
        due("it cuts", x.pair(1, 12, 0, 1), 1);
        due("it is cut", x.pair(2, 1, 12, 1), 1);
        due("it is dated", x.start(3, 12, 0), 700);
        due("it fills its place", x.place(0, 12, 0, 1), 39);
        due("it is led", x.led(39, 0, 1), 12);
    }

    private static void phaseAsked() {
        Edges.says("`int phase(int known, int house)`: PHASE of an EXPLAINED HOUSE; NONE.");
        PostHouses x = Edges.kinds(Edges.book(100, 100, 120, 100, 100, 140, 100, 60), Edges.ELL);
        due("two houses", x.houses(0), 2);
        due("the explained one", x.phase(0, 0), 0);
        due("the other one", x.phase(0, 1), NONE);
        for (int house : new int[] {-1, 2, 23, 24, MAX, MIN}) {
            due("house " + house, x.phase(0, house), NONE);
            due("house " + house, x.start(0, house, 0), NONE);
        }
        due("the other one", x.start(0, 1, 0), NONE);
    }

    private static void startIs(PostHouses x, int known, int house, int earliest, int latest) {
        due("earliest of " + house + " in " + known, x.start(known, house, 0), earliest);
        due("latest of " + house + " in " + known, x.start(known, house, 1), latest);
    }

    private static void dates() {
        Edges.says("DATES, 60 at most: a HOLE's post was felled in a year from .. to (0 .. 2000)");
        PostHouses x = apart(1);
        for (int year : new int[] {-1, 2001, MAX, MIN}) {
            Edges.told("from " + year, x, x.date(0, year, 2000, 0), -1);
            Edges.told("to " + year, x, x.date(0, 0, year, 0), -1);
            Edges.told("both " + year, x, x.date(0, year, year, 0), -1);
        }
        Edges.told("to below from", x, x.date(0, 5, 4, 0), -1);
        Edges.told("to below from", x, x.date(0, 2000, 0, 0), -1);
        due("none", x.count(6), 0);
        Edges.told("all years", x, x.date(0, 0, 2000, 0), 1);
        Edges.told("the first", x, x.date(0, 0, 0, 1), 2);
        startIs(x, 0, 0, 0, 2000);
        startIs(x, 1, 0, 0, 0);
        x = apart(1);
        Edges.told("the last", x, x.date(0, 2000, 2000, 1), 1);
        startIs(x, 0, 0, 0, 2000);
        startIs(x, 1, 0, 2000, 2000);
        for (int i = 2; i <= 60; i++) {
            Edges.told("date", x, x.date(0, 0, 2000, 0), i);
        }
        Edges.told("one more", x, x.date(0, 5, 5, 0), -5);
        due("count", x.count(6), 60);
        startIs(x, 0, 0, 0, 2000);
    }

    private static void startInDates() {
        Edges.says("START is in all DATES known of its SPOTS and of HOLES JOINED to them");
        PostHouses x = apart(2);
        x.hole(1, 11, 11, 5, 3);
        x.date(0, 500, 520, 1);
        x.date(1, 510, 530, 2);
        x.date(6, 505, 515, 0);
        x.date(2, 515, 600, 4);
        startIs(x, 0, 0, 0, 2000);
        startIs(x, 1, 0, 500, 520);
        startIs(x, 2, 0, 510, 520);
        startIs(x, 3, 0, 510, 515);
        startIs(x, 4, 0, 515, 515);
        startIs(x, 4, 1, 0, 2000);
        x.date(2, 0, 514, 5);
        startIs(x, 5, 0, NONE, NONE);
        startIs(x, 5, 1, NONE, NONE);
        due("stands", x.stands(5, 100, 1), NONE);
        due("its phase even so", x.phase(5, 0), 0);
        x.strike(6, 6);
        startIs(x, 6, 0, NONE, NONE);
        // A date of a hole that is in no house says nothing.
        x = apart(2);
        x.hole(0, 400, 400, 5, 0);
        x.date(6, 7, 8, 0);
        startIs(x, 0, 0, 0, 2000);
        x.date(3, 900, 900, 0);
        x.strike(3, 1);
        startIs(x, 0, 1, 900, 900);
        startIs(x, 1, 0, 0, 2000);
    }

    private static void startsOfTwo() {
        Edges.says("the one of the higher PHASE has its START not ahead of the other one's START "
                + "and life together");
        PostHouses x = Edges.smalls(100, 100, 110, 110, 300, 300);
        x.date(0, 500, 510, 0);
        startIs(x, 0, 0, 500, 510);
        startIs(x, 0, 1, 530, 2000);
        startIs(x, 0, 2, 0, 2000);
        x.date(4, 530, 530, 1);
        startIs(x, 1, 0, 500, 500);
        startIs(x, 1, 1, 530, 530);
        x.date(4, 0, 529, 2);
        startIs(x, 2, 0, NONE, NONE);
        x = Edges.smalls(100, 100, 110, 110);
        x.date(0, 500, 510, 0);
        x.date(4, 0, 529, 0);
        startIs(x, 0, 0, NONE, NONE);
        startIs(x, 0, 1, NONE, NONE);
        x = Edges.smalls(100, 100, 110, 110);
        x.date(0, 500, 510, 0);
        x.date(4, 0, 530, 0);
        startIs(x, 0, 0, 500, 500);
        startIs(x, 0, 1, 530, 530);
        // The one that is LATER is of the higher PHASE: the other one's life counts.
        x = apart(2);
        later(x, 0, 1);
        startIs(x, 0, 1, 0, 1970);
        startIs(x, 0, 0, 30, 2000);
        // LATER than one of a lower PHASE two PHASES below: no more than its life.
        x = chain(3, 30);
        later(x, 2, 0);
        startIs(x, 0, 0, 0, 1940);
        startIs(x, 0, 2, 60, 2000);
        x = apart(3);
        later(x, 2, 0);
        startIs(x, 0, 2, 30, 2000);
        startIs(x, 0, 1, 0, 2000);
    }

    private static void startsAtTheirEnds() {
        Edges.says("stands \"life\" years from its START (0 .. 2000) on");
        PostHouses x = chain(5, 500);
        for (int house = 0; house < 5; house++) {
            startIs(x, 0, house, 500 * house, 500 * house);
        }
        x = chain(5, 499);
        startIs(x, 0, 0, 0, 4);
        startIs(x, 0, 4, 1996, 2000);
        x = chain(6, 400);
        startIs(x, 0, 5, 2000, 2000);
        x = chain(6, 401);
        startIs(x, 0, 5, NONE, NONE);
        startIs(x, 0, 0, NONE, NONE);
        x = chain(6, 500);
        startIs(x, 0, 0, NONE, NONE);
        startIs(apart(1, 500), 0, 0, 0, 2000);
        startIs(apart(1, 1), 0, 0, 0, 2000);
        x = chain(2, 1);
        startIs(x, 0, 0, 0, 1999);
        startIs(x, 0, 1, 1, 2000);
    }

    private static void noStarts() {
        Edges.says("none, if they can't all have one.");
        PostHouses x = apart(3);
        x.date(0, 5, 5, 0);
        startIs(x, 0, 0, 5, 5);
        x.date(1, 6, 6, 1);
        for (int house = 0; house < 3; house++) {
            startIs(x, 0, house, house == 0 ? 5 : 0, house == 0 ? 5 : 2000);
            startIs(x, 1, house, NONE, NONE);
        }
        Edges.says("NONE (none, too).");
        due("what", x.start(0, 0, -1), NONE);
        due("what", x.start(0, 0, 2), NONE);
        due("what", x.start(0, 0, MAX), NONE);
        due("what", x.start(0, 0, MIN), NONE);
        due("house", x.start(0, 3, 0), NONE);
        due("house", x.start(0, -1, 1), NONE);
    }

    private static void standsAre(PostHouses x, int what, int[][] years) {
        for (int[] year : years) {
            due("stands in " + year[0], x.stands(0, year[0], what), year[1]);
        }
    }

    private static void sure() {
        Edges.says("In a year HOUSES stand for SURE: LATEST is not behind it, and EARLIEST and life "
                + "together are behind it.");
        PostHouses x = apart(2);
        x.date(0, 500, 510, 0);
        standsAre(x, 0, new int[][] {{499, 0}, {500, 0}, {509, 0}, {510, 1}, {529, 1}, {530, 0}});
        x.date(3, 520, 549, 0);
        standsAre(x, 0, new int[][] {{519, 1}, {529, 1}, {548, 0}, {549, 1}, {550, 0}});
        x = apart(1, 500);
        x.date(0, 2000, 2000, 0);
        standsAre(x, 0, new int[][] {{1999, 0}, {2000, 1}, {2499, 1}, {2500, 0}});
        x = apart(1, 1);
        x.date(0, 0, 0, 0);
        standsAre(x, 0, new int[][] {{0, 1}, {1, 0}});
        x = apart(1);
        x.date(0, 500, 530, 0);
        standsAre(x, 0, new int[][] {{500, 0}, {529, 0}, {530, 0}, {531, 0}});
    }

    private static void most() {
        Edges.says("At MOST so many: of those with EARLIEST not behind it and LATEST and life "
                + "together behind it");
        PostHouses x = apart(2);
        x.date(0, 500, 510, 0);
        x.date(3, 505, 520, 0);
        standsAre(x, 1, new int[][] {{499, 0}, {500, 1}, {504, 1}, {505, 2}, {539, 2}, {540, 1},
            {549, 1}, {550, 0}});
        x = apart(1, 500);
        standsAre(x, 1, new int[][] {{0, 1}, {2000, 1}, {2499, 1}, {2500, 0}});
        x = apart(1, 499);
        standsAre(x, 1, new int[][] {{2498, 1}, {2499, 0}});
        Edges.says("the most of which none two MEET or have one that is LATER.");
        standsAre(Edges.smalls(100, 100, 110, 110, 120, 120), 1, new int[][] {{100, 1}});
        standsAre(Edges.smalls(100, 100, 110, 110, 300, 300), 1, new int[][] {{100, 2}});
        standsAre(inRow(), 1, new int[][] {{29, 2}, {30, 2}, {100, 2}, {2000, 2}, {2030, 0}});
        x = apart(3);
        standsAre(x, 1, new int[][] {{100, 3}});
        later(x, 0, 1);
        standsAre(x, 1, new int[][] {{100, 2}});
        later(x, 2, 1);
        standsAre(x, 1, new int[][] {{100, 2}});
        later(x, 2, 0);
        standsAre(x, 1, new int[][] {{100, 1}, {0, 1}, {2029, 1}});
    }

    private static void standsAsked() {
        Edges.says("HOUSES that stand in a year (0 .. 2500): for SURE (what 0), at MOST (1); 0 "
                + "without HOUSES; NONE (if HOUSES can't have STARTS, too).");
        PostHouses none = new PostHouses();
        PostHouses x = apart(1, 500);
        for (int year : new int[] {-1, 2501, MAX, MIN}) {
            for (int what = 0; what <= 1; what++) {
                due("year " + year, x.stands(0, year, what), NONE);
                due("year " + year, none.stands(0, year, what), NONE);
            }
        }
        for (int what : new int[] {-1, 2, MAX, MIN}) {
            due("what " + what, x.stands(0, 100, what), NONE);
            due("what " + what, none.stands(0, 100, what), NONE);
        }
        for (int what = 0; what <= 1; what++) {
            due("without houses", none.stands(0, 0, what), 0);
            due("without houses", none.stands(0, 2500, what), 0);
        }
        due("the first year", x.stands(0, 0, 1), 1);
        due("the last year", x.stands(0, 2500, 1), 0);
        x.date(0, 5, 5, 0);
        x.date(1, 6, 6, 0);
        due("no starts", x.stands(0, 5, 0), NONE);
        due("no starts", x.stands(0, 5, 1), NONE);
    }
}
