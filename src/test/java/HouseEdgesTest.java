/** The edges of term III and of promises 14 to 18: FRAMEWORKS, PLACES, HOUSES, EXPLAINED, STRENGTH. */
public final class HouseEdgesTest {
    private static final int NONE = Edges.NONE;
    private static final int NOTHING = Edges.NOTHING;
    private static final int MAX = Edges.MAX;
    private static final int MIN = Edges.MIN;
    private static final int[] NO_NUMBERS = {-1, 24, MAX, MIN};
    /** The first three of a house of two posts: the fourth PLACE is at 120, 140. */
    private static final int[] THREE = {100, 100, 120, 100, 100, 140};

    public static void main(String[] args) {
        threeSpots();
        lengths();
        upright();
        places();
        nearest();
        deep();
        unseen();
        lost();
        half();
        cornersFilled();
        fillsTwo();
        missed();
        pairs();
        greatestPosts();
        value();
        sameSpots();
        order();
        twentyFour();
        housesAsked();
        placeAsked();
        above0();
        explained();
        strength();
        strengthOfOrder();
        strengthBelow0();
        Edges.end();
    }

    private static void due(String call, int got, int want) {
        Edges.due(call, got, want);
    }

    private static int[] with(int[] places, int... more) {
        int[] all = java.util.Arrays.copyOf(places, places.length + more.length);
        System.arraycopy(more, 0, all, places.length, more.length);
        return all;
    }

    /** A book with a KIND of steps of 20 and 40 apart that says the rest as well. */
    private static PostHouses twenty(String rest, int... places) {
        return Edges.kinds(Edges.book(places), "kind{step 20 to 20,apart 40 to 40," + rest + "}");
    }

    private static void dig(PostHouses x) {
        x.trench(0, 0, 499, 499, 0);
    }

    private static void threeSpots() {
        Edges.says("A FRAMEWORK of a KIND is made by three unlike SPOTS p, q, r");
        due("none", twenty("posts 2 to 2").houses(0), 0);
        due("one", twenty("posts 2 to 2", 100, 100).houses(0), 0);
        due("two", twenty("posts 2 to 2", 100, 100, 120, 100).houses(0), 0);
        PostHouses x = twenty("posts 2 to 2", THREE);
        due("three", x.houses(0), 1);
        due("p", x.house(0, 0, 1), 0);
        due("q", x.house(0, 0, 2), 1);
        due("r", x.house(0, 0, 3), 2);
        x = twenty("posts 2 to 2", 100, 140, 100, 100, 120, 100);
        due("p", x.house(0, 0, 1), 1);
        due("q", x.house(0, 0, 2), 2);
        due("r", x.house(0, 0, 3), 0);
    }

    private static int found(String rest, int vx, int vy, int wx, int wy) {
        PostHouses x = Edges.book(200, 200, 200 + vx, 200 + vy, 200 + wx, 200 + wy);
        return Edges.kinds(x, "kind{posts 2 to 2," + rest + "}").houses(0);
    }

    private static void lengths() {
        Edges.says("if the square of v's length is in \"step\" (from N N to M M)");
        due("5", found("slack 0,apart 40 to 40,step 5 to 5", 3, 4, -32, 24), 1);
        due("20's root", found("slack 0,apart 5 to 200,step 5 to 100", 4, 2, -20, 40), 0);
        due("26's root", found("slack 0,apart 50 to 52,step 5 to 5", 5, 1, -10, 50), 0);
        due("32's root", found("slack 0,apart 30 to 40,step 5 to 6", 4, 4, -24, 24), 1);
        due("32's root", found("slack 0,apart 30 to 40,step 5 to 5", 4, 4, -24, 24), 0);
        due("32's root", found("slack 0,apart 30 to 40,step 6 to 7", 4, 4, -24, 24), 0);
        due("100", found("slack 0,apart 5 to 200,step 100 to 100", 100, 0, 0, 20), 1);
        due("100", found("slack 0,apart 20 to 20,step 100 to 100", 60, 80, 16, -12), 1);
        due("10001's root", found("slack 0,apart 90 to 200,step 5 to 100", 100, 1, -2, 200), 0);
        due("9997's root", found("slack 0,apart 5 to 80,step 100 to 100", 99, 14, -14, 99), 0);
        Edges.says("that of w's in \"apart\"");
        due("5", found("slack 0,step 20 to 20,apart 5 to 5", 16, 12, -3, 4), 1);
        due("4", found("slack 0,step 20 to 20,apart 5 to 200", 20, 0, 0, 4), 0);
        due("200", found("slack 0,step 20 to 20,apart 200 to 200", 20, 0, 0, 200), 1);
        due("200", found("slack 0,step 20 to 20,apart 200 to 200", -16, 12, 120, 160), 1);
        due("201", found("slack 0,step 20 to 20,apart 5 to 200", 20, 0, 0, 201), 0);
        due("1152's root", found("slack 0,step 5 to 6,apart 33 to 34", 4, 4, -24, 24), 1);
        due("1152's root", found("slack 0,step 5 to 6,apart 33 to 33", 4, 4, -24, 24), 0);
        due("1152's root", found("slack 0,step 5 to 6,apart 34 to 34", 4, 4, -24, 24), 0);
    }

    private static void upright() {
        Edges.says("(v w) squared is no more than slack squared times v's square");
        for (int slack = 0; slack <= 9; slack++) {
            String rest = "step 20 to 20,apart 40 to 60,slack " + slack;
            due("as much as slack " + slack, found(rest, 20, 0, slack, 50), 1);
            due("as much as slack " + slack, found(rest, 20, 0, -slack, 50), 1);
            due("as much as slack " + slack, found(rest, 0, -20, 50, slack), 1);
            due("one more", found(rest, 20, 0, slack + 1, 50), 0);
            due("one more", found(rest, 20, 0, -slack - 1, 50), 0);
            due("one more", found(rest, 0, -20, 50, slack + 1), 0);
        }
        String slant = "step 20 to 20,apart 5 to 200,slack 3";
        due("60 of 60", found(slant, 12, 16, -27, 24), 1);
        due("72 of 60", found(slant, 12, 16, -26, 24), 0);
        due("-60 of 60", found(slant, 12, 16, -37, 24), 1);
        due("-72 of 60", found(slant, 12, 16, -38, 24), 0);
        String root = "step 11 to 12,apart 40 to 50,slack 3";
        due("30 of 33.5", found(root, 10, 5, -17, 40), 1);
        due("35 of 33.5", found(root, 10, 5, -17, 41), 0);
    }

    private static void places() {
        Edges.says("Its PLACES for n posts are p + i v + j w, i 0 .. n - 1, j 0 .. rows - 1.");
        int[] slant = new int[24];
        for (int i = 0; i < 12; i++) {
            slant[2 * i] = 250 + i / 4 * 12 - i % 4 * 32;
            slant[2 * i + 1] = 100 + i / 4 * 16 + i % 4 * 24;
        }
        PostHouses x = twenty("rows 4,posts 3 to 3,slack 0", slant);
        due("p", x.house(0, 0, 1), 0);
        due("twelve", x.house(0, 0, 5), 12);
        for (int i = 0; i < 3; i++) {
            for (int j = 0; j < 4; j++) {
                due("place " + i + ", " + j, x.place(0, 0, i, j), 4 * i + j);
            }
        }
        due("i 3", x.place(0, 0, 3, 0), NOTHING);
        due("j 4", x.place(0, 0, 0, 4), NOTHING);
        for (int rows = 2; rows <= 4; rows++) {
            x = Edges.kinds(Edges.book(slant), "kind{step 20 to 20,apart 40 to 40,posts 2 to 3,"
                    + "slack 0,rows " + rows + "}");
            due("rows " + rows, x.house(0, 0, 5), 3 * rows);
            due("the last", x.place(0, 0, 2, rows - 1), 8 + rows - 1);
            due("none behind it", x.place(0, 0, 2, rows), NOTHING);
        }
    }

    /** What the fourth PLACE is, if these lie about it. */
    private static int fourth(String rest, int... more) {
        return twenty("posts 2 to 2," + rest, with(THREE, more)).place(0, 0, 1, 1);
    }

    private static void nearest() {
        Edges.says("A PLACE is FILLED by the SPOT that lies nearest to it");
        due("the only one", fourth("slack 3", 122, 140), 3);
        due("the nearer, higher one", fourth("slack 3", 122, 140, 119, 140), 4);
        due("the nearer, lower one", fourth("slack 3", 119, 140, 122, 140), 3);
        due("one at it", fourth("slack 3", 121, 140, 120, 140), 4);
        due("nearer by squares", fourth("slack 5", 123, 143, 124, 140), 4);
        Edges.says("of alike ones the lower");
        due("2 to each side", fourth("slack 3", 122, 140, 118, 140), 3);
        due("2 to each side", fourth("slack 3", 118, 140, 122, 140), 3);
        due("2 to each side", fourth("slack 3", 120, 142, 118, 140), 3);
        due("at one place", fourth("slack 3", 121, 141, 121, 141), 3);
        due("5 and 3, 4", fourth("slack 5", 123, 144, 125, 140), 3);
        Edges.says("if that is not farther than slack (squares compared)");
        due("at it", fourth("slack 0", 120, 140), 3);
        due("1 and slack 0", fourth("slack 0", 121, 140), -2);
        due("5 and slack 5", fourth("slack 5", 123, 144), 3);
        due("5 and slack 5", fourth("slack 5", 120, 135), 3);
        due("6 and slack 5", fourth("slack 5", 126, 140), -2);
        due("26's root and slack 5", fourth("slack 5", 121, 145), -2);
        due("9 and slack 9", fourth("slack 9", 129, 140), 3);
        due("9 and slack 9", fourth("slack 9", 120, 149), 3);
        due("10 and slack 9", fourth("slack 9", 120, 150), -2);
        due("82's root and slack 9", fourth("slack 9", 129, 141), -2);
    }

    /** What the fourth PLACE is, if a HOLE so deep lies there and a fit one beside it. */
    private static int fourthDeep(String deep, int depth, int ploughed) {
        PostHouses x = Edges.book(THREE);
        x.hole(0, 120, 140, depth, 0);
        x.hole(0, 121, 140, 30, 0);
        x.plough(120, 140, 120, 140, ploughed);
        return Edges.kinds(x, "kind{step 20 to 20,apart 40 to 40,posts 2 to 2,deep " + deep + "}")
                .place(0, 0, 1, 1);
    }

    private static void deep() {
        Edges.says("and has its FULL DEPTH in \"deep\"");
        due("least", fourthDeep("20 to 50", 20, 0), 3);
        due("below", fourthDeep("20 to 50", 19, 0), -2);
        due("most", fourthDeep("20 to 50", 50, 0), 3);
        due("above", fourthDeep("20 to 50", 51, 0), -2);
        due("least by the plough", fourthDeep("20 to 50", 12, 8), 3);
        due("below by the plough", fourthDeep("20 to 50", 12, 7), -2);
        due("most by the plough", fourthDeep("20 to 50", 42, 8), 3);
        due("above by the plough", fourthDeep("20 to 50", 42, 9), -2);
        due("0", fourthDeep("0 to 50", 0, 0), 3);
        due("0 and 1", fourthDeep("1 to 50", 0, 0), -2);
        due("300", fourthDeep("0 to 300", 200, 100), 3);
        due("299 and 300", fourthDeep("0 to 299", 200, 100), -2);
    }

    private static void unseen() {
        Edges.says("else it is UNSEEN, if it is not DUG");
        PostHouses x = twenty("posts 2 to 2,miss 1", THREE);
        due("no trench", x.place(0, 0, 1, 1), -2);
        due("unseen", x.house(0, 0, 8), 1);
        x.plough(0, 0, 499, 499, 50);
        due("ploughed, but not dug", x.place(0, 0, 1, 1), -2);
        x.trench(120, 140, 120, 140, 1);
        due("not dug yet", x.place(0, 0, 1, 1), -2);
        due("dug", x.place(1, 0, 1, 1), -3);
        due("none unseen", x.house(1, 0, 8), 0);
        // A place is FILLED, dug or not.
        x = twenty("posts 2 to 2,miss 1", with(THREE, 120, 140));
        due("filled", x.place(0, 0, 1, 1), 3);
        dig(x);
        due("filled", x.place(0, 0, 1, 1), 3);
        x = twenty("posts 2 to 2,miss 1,deep 0 to 40", with(THREE, 120, 140));
        x.retell(3, 41, 0);
        due("too deep, not dug", x.place(0, 0, 1, 1), -2);
        dig(x);
        due("too deep, dug", x.place(0, 0, 1, 1), -4);
    }

    private static int fourthPloughed(int least, int depth) {
        PostHouses x = new PostHouses();
        for (int i = 0; i < THREE.length; i += 2) {
            x.hole(0, THREE[i], THREE[i + 1], 150, 0);
        }
        dig(x);
        x.plough(120, 140, 499, 499, depth);
        x.plough(0, 0, 119, 499, 9);
        return Edges.kinds(x, "kind{step 20 to 20,apart 40 to 40,posts 2 to 2,miss 1,deep " + least
                + " to 300}").place(0, 0, 1, 1);
    }

    private static void lost() {
        Edges.says("else LOST, if what is PLOUGHED there is not below the N of \"deep\" and above "
                + "0; else MISSED.");
        due("10 of 10", fourthPloughed(10, 10), -3);
        due("9 of 10", fourthPloughed(10, 9), -4);
        due("11 of 10", fourthPloughed(10, 11), -3);
        due("1 of 1", fourthPloughed(1, 1), -3);
        due("0 of 1", fourthPloughed(1, 0), -4);
        due("1 of 0", fourthPloughed(0, 1), -3);
        due("0 of 0", fourthPloughed(0, 0), -4);
        due("100 of 100", fourthPloughed(100, 100), -3);
        due("100 of 101", fourthPloughed(101, 100), -4);
        due("none at all", dugThree().place(0, 0, 1, 1), -4);
    }

    private static PostHouses dugThree() {
        PostHouses x = twenty("posts 2 to 2,miss 1", THREE);
        dig(x);
        return x;
    }

    private static void half() {
        Edges.says("if at least half of its PLACES are FILLED");
        due("3 of 6", twenty("posts 3 to 3", THREE).houses(0), 1);
        due("3 of 8", twenty("posts 4 to 4", THREE).houses(0), 0);
        due("4 of 8", twenty("posts 4 to 4", with(THREE, 120, 140)).houses(0), 1);
        due("3 of 6", twenty("rows 3,posts 2 to 2", THREE).houses(0), 1);
        due("3 of 8", twenty("rows 4,posts 2 to 2", THREE).houses(0), 0);
        due("4 of 8", twenty("rows 4,posts 2 to 2", with(THREE, 120, 220)).houses(0), 1);
        int[] four = with(THREE, 140, 180);
        due("4 of 9", twenty("rows 3,posts 3 to 3", four).houses(0), 0);
        due("5 of 9", twenty("rows 3,posts 3 to 3", with(four, 140, 100)).houses(0), 1);
        // 32 PLACES: a whole row of eight and eight others.
        int[] most = new int[32];
        for (int i = 0; i < 16; i++) {
            most[2 * i] = 100 + i / 2 * 20;
            most[2 * i + 1] = 100 + i % 2 * 40;
        }
        PostHouses x = twenty("rows 4,posts 8 to 8,slack 0", most);
        due("16 of 32", x.house(0, 0, 5), 16);
        due("16 of 32", x.house(0, 0, 8), 16);
        x.strike(15, 1);
        due("15 of 32", x.houses(1), 0);
    }

    private static void cornersFilled() {
        Edges.says("p, q and r among them");
        PostHouses x = Edges.book(with(THREE, 120, 140));
        Edges.kinds(x, "kind{step 20 to 20,apart 40 to 40,posts 2 to 2,deep 10 to 60}");
        due("the first framework", x.house(0, 0, 1), 0);
        for (int hole = 0; hole < 4; hole++) {
            x.retell(hole, 9, hole + 1);
            x.retell(hole, 30, hole + 2);
        }
        for (int hole = 0; hole < 4; hole++) {
            due("three others", x.houses(hole + 1), 1);
            due("three others", x.house(hole + 1, 0, 5), 3);
            due("p", x.house(hole + 1, 0, 1), 3 - hole);
            due("its place", x.place(hole + 1, 0, 1, 1), -2);
        }
        x.retell(0, 61, 9);
        due("too deep", x.house(9, 0, 1), 3);
        x.retell(1, 61, 10);
        due("two too deep", x.houses(10), 0);
        // Where another one lies at its place, the lower fills it.
        x = twenty("posts 2 to 2", with(THREE, 100, 100, 120, 100, 100, 140));
        due("one house", x.houses(0), 1);
        due("p", x.house(0, 0, 1), 0);
        due("q", x.house(0, 0, 2), 1);
        due("r", x.house(0, 0, 3), 2);
        x.strike(1, 1);
        due("q", x.house(1, 0, 2), 4);
        x.retell(0, 0, 2);
        Edges.kinds(x, "kind{step 20 to 20,apart 40 to 40,posts 2 to 2,deep 10 to 60}");
        due("the lower one at p's place is not deep enough", x.houses(2), 0);
    }

    private static void fillsTwo() {
        Edges.says("no SPOT fills two");
        int[] near = {100, 100, 105, 100, 100, 106};
        String kind = "kind{step 5 to 5,apart 6 to 6,posts 2 to 2,slack ";
        due("within 5 of two", Edges.kinds(Edges.book(near), kind + "5}").houses(0), 0);
        due("within 5 of one", Edges.kinds(Edges.book(near), kind + "4}").houses(0), 1);
        // The third of three posts is a step from the second: filled by it or not.
        int[] row = {100, 100, 109, 100, 100, 140, 109, 140};
        kind = "kind{step 9 to 9,apart 40 to 40,posts 2 to 3,slack ";
        PostHouses x = Edges.kinds(Edges.book(row), kind + "8}");
        due("three posts", x.house(0, 0, 4), 3);
        x = Edges.kinds(Edges.book(row), kind + "9}");
        due("the second would fill the third's place", x.house(0, 0, 4), 2);
    }

    private static void missed() {
        Edges.says("no more are MISSED than \"miss\"");
        int[] row = {100, 100, 120, 100, 140, 100, 160, 100, 180, 100, 200, 100, 100, 140};
        for (int miss = 0; miss <= 4; miss++) {
            PostHouses x = twenty("posts 6 to 6,miss " + miss, row);
            x.trench(0, 0, 499, 139, 0);
            due("none missed", x.house(0, 0, 6), 0);
            x.trench(220 - miss * 20, 140, 499, 499, 1);
            due("as many as may be", x.house(1, 0, 6), miss);
            x.trench(200 - miss * 20, 140, 499, 499, 2);
            due("one more", x.houses(2), 0);
        }
    }

    private static PostHouses depths(String rest, int... depths) {
        int[] places = {100, 100, 120, 100, 100, 140, 120, 140, 100, 180, 120, 180};
        PostHouses x = new PostHouses();
        for (int i = 0; i < depths.length; i++) {
            if (depths[i] >= 0) {
                x.hole(0, places[2 * i], places[2 * i + 1], depths[i], 0);
            }
        }
        return Edges.kinds(x, "kind{step 20 to 20,apart 40 to 40,posts 2 to 2," + rest + "}");
    }

    private static void pairs() {
        Edges.says("of FILLED PLACES i, j and i, j + 1 the FULL DEPTHS differ by \"pairs\" at most");
        due("alike", depths("pairs 0", 30, 30, 30, 30).houses(0), 1);
        due("one more", depths("pairs 0", 30, 30, 31, 30).houses(0), 0);
        due("one less", depths("pairs 0", 30, 30, 29, 30).houses(0), 0);
        due("one more, i 1", depths("pairs 0", 30, 30, 30, 31).houses(0), 0);
        due("20 more", depths("pairs 20", 30, 30, 50, 10).houses(0), 1);
        due("21 more", depths("pairs 20", 30, 30, 51, 30).houses(0), 0);
        due("21 less", depths("pairs 20", 30, 30, 30, 9).houses(0), 0);
        due("200 of 199", depths("pairs 199", 0, 0, 200, 0).houses(0), 0);
        due("200 of 200", depths("pairs 200", 0, 0, 200, 0).houses(0), 1);
        due("along the rows they may differ", depths("pairs 0", 0, 200, 0, 200).houses(0), 1);
        due("j 1 and 2", depths("rows 3,pairs 9", 30, 30, 39, 39, 48, 30).house(0, 0, 5), 6);
        due("two rows alone", depths("rows 3,pairs 9", 30, 30, 39, 39, 49, 30).house(0, 0, 5), 4);
        due("one unfilled between them", depths("rows 3,pairs 0", 30, 30, 30, -1, 30, 200)
                .house(0, 0, 5), 5);
        PostHouses x = depths("pairs 5", 30, 30, 36, 30);
        due("6 of 5", x.houses(0), 0);
        x.plough(0, 0, 499, 100, 1);
        due("full depths", x.houses(0), 1);
    }

    private static void greatestPosts() {
        Edges.says("n is the greatest such.");
        int[] row = new int[36];
        for (int i = 0; i < 18; i++) {
            row[2 * i] = 100 + i / 2 * 20;
            row[2 * i + 1] = 100 + i % 2 * 40;
        }
        due("8 of 9", twenty("slack 0", row).house(0, 0, 4), 8);
        for (int most = 2; most <= 8; most++) {
            due("to " + most, twenty("slack 0,posts 2 to " + most, row).house(0, 0, 4), most);
            due("from and to " + most, twenty("slack 0,posts " + most + " to " + most, row)
                    .house(0, 0, 4), most);
        }
        int[] seven = java.util.Arrays.copyOf(row, 28);
        dueSeven(seven);
        // With four posts less than half are filled, with five it is half again.
        int[] gap = with(THREE, 180, 100, 180, 140);
        due("5 of 10", twenty("slack 0", gap).house(0, 0, 4), 5);
        due("not 5 of 12", twenty("slack 0,posts 2 to 8", gap).house(0, 0, 4), 5);
        due("3 of 6", twenty("slack 0,posts 2 to 4", gap).house(0, 0, 4), 3);
        due("3 of 8", twenty("slack 0,posts 4 to 4", gap).houses(0), 0);
        // Eight empty ones, then two pairs: half of eight pairs again.
        PostHouses x = twenty("slack 0", with(THREE, 140, 100, 220, 100, 220, 140, 240, 100, 240,
                140));
        due("p", x.house(0, 0, 1), 0);
        due("8 of 16", x.house(0, 0, 4), 8);
        due("8 of 16", x.house(0, 0, 5), 8);
    }

    private static void dueSeven(int[] seven) {
        PostHouses x = twenty("slack 0,posts 8 to 8", seven);
        due("14 of 16", x.house(0, 0, 5), 14);
        dig(x);
        due("8 posts, none may be missed", x.houses(0), 0);
        x = twenty("slack 0", seven);
        dig(x);
        due("7 posts", x.house(0, 0, 4), 7);
        x = twenty("slack 0,miss 1", seven);
        dig(x);
        due("7 posts, as two would be missed", x.house(0, 0, 4), 7);
        x = twenty("slack 0,miss 2", seven);
        dig(x);
        due("8 posts, two missed", x.house(0, 0, 4), 8);
        due("8 posts, two missed", x.house(0, 0, 6), 2);
    }

    private static void value() {
        Edges.says("VALUE: worth times FILLED, less 5 for each MISSED, 2 for each LOST PLACE.");
        int[] row = {100, 100, 120, 100, 140, 100, 160, 100, 180, 100, 200, 100, 220, 100, 100,
            140};
        PostHouses x = twenty("posts 8 to 8,miss 4,slack 0,worth 1", row);
        due("8 filled, 8 unseen", x.house(0, 0, 9), 8);
        x.trench(0, 140, 180, 140, 1);
        due("4 missed", x.house(1, 0, 9), -12);
        x.trench(200, 140, 220, 140, 2);
        due("6 missed", x.houses(2), 0);
        x.plough(160, 140, 499, 140, 1);
        due("lost", x.house(1, 0, 7), 2);
        due("missed", x.house(1, 0, 6), 2);
        due("value", x.house(1, 0, 9), 8 - 2 * 5 - 2 * 2);
        due("lost", x.house(2, 0, 7), 4);
        due("value", x.house(2, 0, 9), 8 - 2 * 5 - 4 * 2);
        due("unseen", x.house(2, 0, 8), 2);
        x.trench(240, 100, 240, 140, 3);
        due("lost", x.house(3, 0, 7), 5);
        due("missed", x.house(3, 0, 6), 3);
        due("unseen", x.house(3, 0, 8), 0);
        due("value", x.house(3, 0, 9), 8 - 3 * 5 - 5 * 2);
        int[] whole = new int[32];
        for (int i = 0; i < 16; i++) {
            whole[2 * i] = 100 + i / 2 * 20;
            whole[2 * i + 1] = 100 + i % 2 * 40;
        }
        due("the most of 16", twenty("slack 0,worth 100", whole).house(0, 0, 9), 1600);
        due("the least of 16", twenty("slack 0,worth 1", whole).house(0, 0, 9), 16);
    }

    private static void sameSpots() {
        Edges.says("of those of one KIND that have the same SPOTS the one of the greatest VALUE, "
                + "of alike ones the first");
        // Steps of 20 from hole 0 on, of 21 from hole 2 on: the third PLACES lie apart.
        PostHouses x = twenty("step 20 to 21,slack 2,posts 3 to 3,miss 2", 100, 100, 120, 100, 100,
                140, 121, 140);
        due("one of them", x.houses(0), 1);
        due("the first of alike ones", x.house(0, 0, 1), 0);
        x.trench(140, 0, 141, 499, 1);
        due("the greater one", x.house(1, 0, 1), 2);
        due("the greater one", x.house(1, 0, 9), 40);
        due("one of them", x.houses(1), 1);
        x.trench(142, 0, 142, 499, 2);
        due("alike again", x.house(2, 0, 1), 0);
        due("alike again", x.house(2, 0, 9), 30);
        // The one that is given up stood ahead of another house.
        x = twenty("step 20 to 21,slack 2,posts 3 to 3,miss 2", 300, 300, 320, 300, 300, 340, 100,
                100, 120, 100, 100, 140, 121, 140);
        x.trench(140, 0, 140, 130, 0);
        due("two", x.houses(0), 2);
        for (int i = 0; i < 3; i++) {
            x.hole(0, 300, 20 + 90 * i, 30, 1 + i);
            x.hole(0, 320, 20 + 90 * i, 30, 1 + i);
            x.hole(0, 300, 60 + 90 * i, 30, 1 + i);
            due("more behind it", x.houses(1 + i), 3 + i);
            due("the greater one", x.house(1 + i, 0, 1), 5);
            due("the other house", x.house(1 + i, 1, 1), 0);
            due("the last of them", x.house(1 + i, 2 + i, 1), 7 + 3 * i);
            due("all of them", x.explained(1 + i, 1), 100 + 30 * i);
        }
        due("the greater one", x.house(0, 0, 1), 5);
        due("its value", x.house(0, 0, 9), 40);
        due("the other house", x.house(0, 1, 1), 0);
        due("its value", x.house(0, 1, 9), 30);
        due("both", x.explained(0, 1), 70);
        x = Edges.kinds(Edges.book(with(THREE, 120, 140)), "kind{step 20 to 20,posts 2 to 2};"
                + "kind{step 20 to 20,posts 2 to 2}");
        due("of two kinds there are two", x.houses(0), 2);
        due("kind 0", x.house(0, 0, 0), 0);
        due("kind 1", x.house(0, 1, 0), 1);
        // The same but for one SPOT are two HOUSES.
        x = twenty("posts 2 to 2,slack 0", 100, 100, 120, 100, 100, 140, 100, 60);
        due("unlike in one spot", x.houses(0), 2);
    }

    private static void houseIs(PostHouses x, int house, int... want) {
        for (int what = 0; what < want.length; what++) {
            due("house " + house + ", what " + what, x.house(0, house, what), want[what]);
        }
    }

    private static void order() {
        Edges.says("by KIND, p, q, r in order");
        PostHouses x = twenty("posts 2 to 2,slack 0", 100, 100, 120, 100, 80, 100, 100, 140, 100,
                60);
        due("four", x.houses(0), 4);
        houseIs(x, 0, 0, 0, 1, 3);
        houseIs(x, 1, 0, 0, 1, 4);
        houseIs(x, 2, 0, 0, 2, 3);
        houseIs(x, 3, 0, 0, 2, 4);
        x = Edges.kinds(Edges.smalls(300, 300, 100, 100), Edges.SMALL + ";" + Edges.SMALL);
        due("four", x.houses(0), 4);
        houseIs(x, 0, 0, 0, 1, 2);
        houseIs(x, 1, 0, 4, 5, 6);
        houseIs(x, 2, 1, 0, 1, 2);
        houseIs(x, 3, 1, 4, 5, 6);
        Edges.says("numbered by VALUE, the greatest first, of alike ones in order");
        x.strike(3, 0);
        due("four", x.houses(0), 4);
        houseIs(x, 0, 0, 4);
        houseIs(x, 1, 1, 4);
        houseIs(x, 2, 0, 0);
        houseIs(x, 3, 1, 0);
        due("the greatest", x.house(0, 0, 9), 40);
        due("alike", x.house(0, 1, 9), 40);
        due("the next", x.house(0, 2, 9), 30);
    }

    private static String smallWorth(int worth) {
        return "kind{posts 2 to 2,step 30 to 30,apart 50 to 50,slack 1,worth " + worth + "}";
    }

    private static void twentyFour() {
        Edges.says("of all these the 24 of the greatest VALUES");
        PostHouses x = Edges.smalls(10, 10, 90, 10, 170, 10, 250, 10, 330, 10);
        String four = smallWorth(10) + ";" + smallWorth(10) + ";" + smallWorth(10) + ";"
                + smallWorth(10);
        Edges.kinds(x, four);
        due("20", x.houses(0), 20);
        x.hole(0, 10, 200, 30, 1);
        x.hole(0, 40, 200, 30, 1);
        x.hole(0, 10, 250, 30, 1);
        due("24", x.houses(1), 24);
        due("the last in order", x.house(1, 23, 0), 3);
        due("the last in order", x.house(1, 23, 9), 30);
        due("none behind it", x.house(1, 24, 9), NOTHING);
        Edges.kinds(x, four + ";" + smallWorth(10));
        due("25, 24 of them", x.houses(0), 24);
        for (int house = 0; house < 24; house++) {
            houseIs(x, house, house / 5, house % 5 * 4);
        }
        due("none behind them", x.house(0, 24, 9), NOTHING);
        due("30 in all, 24 of them", x.houses(1), 24);
        due("the greater ones alone", x.house(1, 23, 9), 40);
        due("the last but one of kind 4", x.house(1, 23, 1), 12);
        Edges.kinds(x, four + ";" + smallWorth(11));
        due("25, 24 of them", x.houses(0), 24);
        for (int house = 0; house < 24; house++) {
            int kind = house < 5 ? 4 : (house - 5) / 5;
            houseIs(x, house, kind, house % 5 * 4);
            due("value", x.house(0, house, 9), house < 5 ? 44 : 40);
        }
        Edges.kinds(x, smallWorth(9) + ";" + four);
        due("the first of kind 0", x.house(0, 20, 1), 0);
        due("the last of kind 0 is none", x.house(0, 23, 1), 12);
        due("24 of them", x.houses(0), 24);
    }

    private static void housesAsked() {
        Edges.says("`int houses(int known)`: How many HOUSES as known in a WEEK; NONE.");
        PostHouses x = dugThree();
        x.strike(0, 5);
        due("one", x.houses(4), 1);
        due("none", x.houses(5), 0);
        due("week", x.houses(401), NONE);
        due("week", x.houses(-1), NONE);
        Edges.says("8 UNSEEN, 9 VALUE (it may be below 0), 10 1 EXPLAINED, else 0. NOTHING.");
        x = twenty("posts 2 to 2,miss 1,worth 1", THREE);
        dig(x);
        houseIs(x, 0, 0, 0, 1, 2, 2, 3, 1, 0, 0, -2, 0);
        for (int what : new int[] {-1, 11, MAX, MIN}) {
            due("what " + what, x.house(0, 0, what), NOTHING);
        }
        for (int house : new int[] {-1, 1, 23, 24, 25, MAX, MIN}) {
            for (int what = -1; what <= 11; what++) {
                due("house " + house, x.house(0, house, what), NOTHING);
            }
        }
    }

    private static void placeAsked() {
        Edges.says("By which SPOT PLACE i, j of a HOUSE is FILLED; -2 UNSEEN, -3 LOST, -4 MISSED; "
                + "NOTHING without.");
        PostHouses x = twenty("rows 3,posts 2 to 2,miss 1,slack 0", THREE);
        x.trench(0, 180, 499, 499, 0);
        x.plough(120, 180, 120, 180, 5);
        int[] want = {0, 2, -4, 1, -2, -3};
        for (int i = 0; i < 6; i++) {
            due("place", x.place(0, 0, i / 3, i % 3), want[i]);
        }
        for (int n : new int[] {-1, 3, 4, 1 << 16, MAX, MIN}) {
            due("i " + n, x.place(0, 0, n, 0), NOTHING);
            due("j " + n, x.place(0, 0, 0, n), NOTHING);
        }
        due("i 2 of 2", x.place(0, 0, 2, 0), NOTHING);
        for (int house : NO_NUMBERS) {
            due("house " + house, x.place(0, house, 0, 0), NOTHING);
        }
        due("house 1 of 1", x.place(0, 1, 0, 0), NOTHING);
        // The number is the HOLE's, not that of its place among the SPOTS.
        x = twenty("posts 2 to 2,slack 0", -9, -9, 100, 100, 120, 100, 100, 140, 120, 140);
        int[] spots = {1, 3, 2, 4};
        for (int i = 0; i < 4; i++) {
            due("spot", x.place(0, 0, i / 2, i % 2), spots[i]);
        }
        // Each HOUSE's PLACES are by its own KIND: of 9 only the first and the fifth reach them.
        x = Edges.book(with(THREE, 126, 140));
        String five = "kind{step 20 to 20,posts 2 to 2,slack 9,worth 50};";
        String none = "kind{step 99 to 99,slack 0};";
        Edges.kinds(x, five + none + none + none + "kind{step 20 to 20,posts 2 to 2,slack 9,worth "
                + "40}");
        due("kind 0", x.house(0, 0, 0), 0);
        due("of kind 0", x.place(0, 0, 1, 1), 3);
        due("kind 4", x.house(0, 1, 0), 4);
        due("of kind 4", x.place(0, 1, 1, 1), 3);
        Edges.kinds(x, five + "kind{step 20 to 20,posts 2 to 2,slack 0}");
        due("of kind 0", x.place(0, 0, 1, 1), 3);
        due("of kind 1", x.place(0, 1, 1, 1), -2);
    }

    private static void above0() {
        Edges.says("EXPLAINED is that set of HOUSES with VALUES above 0");
        int[] five = {100, 100, 120, 100, 140, 100, 100, 140, 120, 140};
        PostHouses x = twenty("posts 3 to 3,slack 0,miss 1,worth 1", five);
        dig(x);
        due("one house", x.houses(0), 1);
        due("of 0", x.house(0, 0, 9), 0);
        due("not explained", x.house(0, 0, 10), 0);
        due("none", x.explained(0, 0), 0);
        due("none", x.explained(0, 1), 0);
        due("no phases", x.phases(0, 0), 0);
        due("no phase", x.phase(0, 0), NONE);
        due("no start", x.start(0, 0, 0), NONE);
        due("alone", x.led(0, 0, 0), 4);
        x = dugThree();
        Edges.kinds(x, "kind{step 20 to 20,apart 40 to 40,posts 2 to 2,miss 1,worth 1}");
        due("of -2", x.house(0, 0, 9), -2);
        due("none", x.explained(0, 0), 0);
        x.plough(120, 140, 120, 140, 1);
        due("of 1", x.house(0, 0, 9), 1);
        due("explained", x.house(0, 0, 10), 1);
        due("one", x.explained(0, 0), 1);
        due("of 1", x.explained(0, 1), 1);
    }

    private static void explained() {
        Edges.says("no two of which have a SPOT in common");
        PostHouses x = twenty("posts 2 to 2,slack 0", with(THREE, 100, 60));
        due("two", x.houses(0), 2);
        due("one of them", x.explained(0, 0), 1);
        Edges.says("of alike ones that of the fewest HOUSES");
        int[] eight = {100, 100, 120, 100, 140, 100, 160, 100, 100, 140, 120, 140, 140, 140, 160,
            140};
        String step = "kind{step 20 to 20,apart 40 to 40,slack 0,posts ";
        x = Edges.kinds(Edges.book(eight), step + "2 to 2};" + step + "4 to 4}");
        due("80 by one or by two", x.explained(0, 1), 80);
        due("by one", x.explained(0, 0), 1);
        due("the greatest", x.house(0, 0, 10), 1);
        Edges.kinds(x, step + "2 to 2,worth 11};" + step + "4 to 4}");
        due("88 by two", x.explained(0, 1), 88);
        due("by two", x.explained(0, 0), 2);
        Edges.says("then the first as rows of their numbers.");
        dig(x);
        Edges.kinds(x, step + "3 to 3}");
        due("two alike", x.houses(0), 2);
        due("the first", x.house(0, 0, 10), 1);
        due("not the other one", x.house(0, 1, 10), 0);
        // Numbers 0, 1, 2 of two posts are from left to right: 0 and 2 are all.
        Edges.kinds(x, step + "2 to 2}");
        due("three", x.houses(0), 3);
        due("two", x.explained(0, 0), 2);
        due("number 0", x.house(0, 0, 10), 1);
        due("not number 1", x.house(0, 1, 10), 0);
        due("number 2", x.house(0, 2, 10), 1);
        // Four in a row: 0 and 2 come ahead of 0 and 3, and of 1 and 3.
        x = Edges.kinds(Edges.book(100, 100, 120, 100, 140, 100, 160, 100, 180, 100, 100, 140, 120,
                140, 140, 140, 160, 140, 180, 140), step + "2 to 2}");
        due("four", x.houses(0), 4);
        due("two", x.explained(0, 0), 2);
        int[] chosen = {1, 0, 1, 0};
        for (int house = 0; house < 4; house++) {
            due("number " + house, x.house(0, house, 10), chosen[house]);
        }
        lastOfAll();
        Edges.says("how many HOUSES (what 0), their VALUES together (1); NONE.");
        for (int what : new int[] {-1, 2, MAX, MIN}) {
            due("what " + what, x.explained(0, what), NONE);
        }
        due("values", x.explained(0, 1), 80);
        x = new PostHouses();
        due("without any", x.explained(0, 0), 0);
        due("without any", x.explained(0, 1), 0);
    }

    /** HOUSE 23 is EXPLAINED as any other one; one below 0 takes nothing from the others. */
    private static void lastOfAll() {
        Edges.says("whose VALUES together are greatest");
        PostHouses x = new PostHouses();
        for (int i = 0; i < 24; i++) {
            x.hole(0, 10 + i / 2 * 30, 10 + i % 2 * 50, 30, 0);
        }
        for (int i = 0; i < 2; i++) {
            x.hole(0, 400, 300 + 100 * i, 30, 0);
            x.hole(0, 420, 300 + 100 * i, 30, 0);
            x.hole(0, 400, 340 + 100 * i, 30, 0);
        }
        x.cut(27, 24, 0);
        x.date(29, 700, 700, 0);
        Edges.kinds(x, Edges.SMALL + ";" + Edges.SMALL + ";" + Edges.ELL);
        due("24", x.houses(0), 24);
        due("eight", x.explained(0, 0), 8);
        due("their values", x.explained(0, 1), 300);
        due("number 22", x.house(0, 22, 10), 1);
        due("number 23", x.house(0, 23, 10), 1);
        due("its spots", x.led(29, 0, 1), 23);
        due("later", x.pair(0, 23, 22, 1), 1);
        due("not the other way", x.pair(0, 22, 23, 1), 0);
        due("its phase", x.phase(0, 23), 1);
        due("its start", x.start(0, 23, 0), 700);
        due("the other one's", x.start(0, 22, 1), 670);
        due("its place", x.place(0, 23, 0, 1), 29);
        // 24 and 13 are more than 36; the last is of -2.
        x = Edges.book(100, 100, 120, 100, 140, 100, 160, 100, 100, 140, 120, 140, 140, 140, 300,
                300, 330, 300, 300, 360);
        dig(x);
        String step = "kind{step 20 to 20,apart 40 to 40,slack 0,worth 6,";
        Edges.kinds(x, step + "posts 3 to 3};" + step + "posts 2 to 2,miss 1};"
                + "kind{step 30 to 30,apart 60 to 60,posts 2 to 2,slack 0,miss 1,worth 1}");
        int[] values = {36, 24, 24, 13, -2};
        int[] chosen = {0, 1, 0, 1, 0};
        for (int house = 0; house < 5; house++) {
            due("value of " + house, x.house(0, house, 9), values[house]);
            due("explained " + house, x.house(0, house, 10), chosen[house]);
        }
        due("more than 36", x.explained(0, 1), 37);
    }

    private static void strength() {
        Edges.says("of seven TRIALS the number of those in which the greatest VALUE of a HOUSE of "
                + "that KIND (0 without) is below what it is");
        // The first two lie at one y, the third 40 on: no others do so, however they are turned.
        int[] eight = {100, 100, 120, 100, 100, 140, 300, 210, 330, 230, 360, 270, 390, 310, 420,
            350};
        PostHouses x = twenty("posts 2 to 2,slack 0", eight);
        due("one house", x.houses(0), 1);
        due("below in all trials", x.strength(0, 0), 7);
        x.strike(7, 1);
        due("trial 7 of 7 spots is no change", x.strength(0, 1), 6);
        x.strike(6, 2);
        due("trial 6 of 6 spots is no change", x.strength(0, 2), 6);
        for (int spots = 0; spots <= 2; spots++) {
            x = twenty("posts 2 to 2,slack 0", java.util.Arrays.copyOf(THREE, 2 * spots));
            due("of " + spots + " spots there is none", x.strength(0, 0), 0);
        }
        x = twenty("posts 2 to 2,slack 0", THREE);
        due("of three spots", x.strength(0, 0), 3);
        // All at one y: every trial is alike.
        x = Edges.kinds(Edges.book(100, 100, 105, 100, 110, 100, 115, 100),
                "kind{step 10 to 10,apart 5 to 5,slack 5,posts 2 to 2}");
        due("a flat house", x.house(0, 0, 5), 4);
        due("as much is not below", x.strength(0, 0), 0);
        PostHouses two = Edges.kinds(Edges.book(THREE), Edges.ELL + ";kind{step 99 to 100}");
        due("of its own kind", two.strength(0, 0), 3);
        due("of a kind that has none", two.strength(1, 0), 0);
        due("asked again", two.strength(0, 0), 3);
        Edges.says("`int strength(int kind, int known)`: STRENGTH of a KIND; NONE.");
        for (int kind : new int[] {-1, 1, 5, MAX, MIN}) {
            due("kind " + kind, x.strength(kind, 0), NONE);
        }
        Edges.kinds(x, "kind{};kind{};kind{};kind{};kind{step 10 to 10,apart 5 to 5,slack 5}");
        due("the fifth kind", x.strength(4, 0), 0);
        due("a sixth kind", x.strength(5, 0), NONE);
    }

    private static void strengthOfOrder() {
        Edges.says("has the y of the one whose place in order is the rest of i + t by m; all else "
                + "stays.");
        // The struck one and the one out of the field have no place in order.
        PostHouses x = Edges.book(100, 100, 300, 300, 120, 100, -5, 300, 100, 140);
        x.strike(1, 0);
        Edges.kinds(x, Edges.ELL);
        due("three spots", x.strength(0, 0), 3);
        // In trial 3 the house is found 100 on, where the plough took 100: its depths stay.
        int[] six = {100, 100, 120, 100, 100, 140, 300, 200, 330, 200, 360, 240};
        x = twenty("posts 2 to 2,slack 0,deep 0 to 60", six);
        due("found again in trials 3 and 6", x.strength(0, 0), 5);
        x.plough(0, 200, 499, 499, 100);
        due("so still", x.strength(0, 0), 5);
        // What is dug there counts: the fourth PLACE is missed then.
        x = twenty("posts 2 to 2,slack 0,miss 1", six);
        due("not dug", x.strength(0, 0), 5);
        x.trench(0, 200, 499, 499, 1);
        due("less in trial 3", x.strength(0, 1), 6);
        x.trench(0, 0, 499, 199, 2);
        due("as much again", x.strength(0, 2), 5);
        due("the houses are as they were", x.house(2, 0, 1), 0);
        due("the places are as they were", x.place(2, 0, 0, 1), 2);
        due("the fences are as they were", x.fences(2), 0);
    }

    private static void strengthBelow0() {
        Edges.says("the greatest VALUE of a HOUSE of that KIND");
        // 40 by the greater house: trials 1, 4 and 7 have 30, the others 40.
        due("the greatest counts", twenty("posts 2 to 2,slack 0", 120, 100, 120, 140, 120, 180,
                140, 140, 140, 180, 140, 180).strength(0, 0), 3);
        Edges.says("(0 without)");
        due("none is below 1", ofValue(1).strength(0, 0), 3);
        due("none is not below 0", ofValue(0).strength(0, 0), 0);
        PostHouses x = dugThree();
        Edges.kinds(x, "kind{step 20 to 20,apart 40 to 40,slack 0,posts 2 to 2,miss 1,worth 1}");
        due("its value", x.house(0, 0, 9), -2);
        due("none, which is 0, is not below -2", x.strength(0, 0), 0);
        x = Edges.kinds(Edges.book(100, 100, 120, 140, 100, 100),
                "kind{step 20 to 20,apart 40 to 40,slack 0,posts 2 to 2,miss 1,worth 1}");
        dig(x);
        due("no house", x.houses(0), 0);
        due("-2 is below none, which is 0", x.strength(0, 0), 5);
    }

    /** Three or four posts of so small a VALUE that are a HOUSE in trials 2, 3, 5 and 6 or 4. */
    private static PostHouses ofValue(int value) {
        PostHouses x = value == 1 ? Edges.book(THREE)
                : Edges.book(100, 100, 120, 100, 140, 100, 100, 140, 120, 140);
        dig(x);
        if (value == 1) {
            x.plough(120, 140, 120, 140, 5);
        }
        Edges.kinds(x, "kind{step 20 to 20,apart 40 to 40,slack 0,posts " + (value == 1 ? "2 to 2"
                : "3 to 3") + ",miss 1,worth 1}");
        due("its value", x.house(0, 0, 9), value);
        return x;
    }
}
