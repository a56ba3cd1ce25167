/** The edges of term VI and of promises 26 to 29: FENCES, how HOLES are led, counts, status. */
public final class FenceEdgesTest {
    private static final int NONE = Edges.NONE;
    private static final int MAX = Edges.MAX;
    private static final int MIN = Edges.MIN;
    /** Ten columns of four: no other line has four within 2. */
    private static final int[][] COLUMNS = {{130, 183, 318, 379}, {353, 407, 430, 482},
        {271, 333, 378, 472}, {14, 238, 397, 430}, {26, 127, 332, 482}, {57, 80, 190, 461},
        {126, 194, 240, 444}, {6, 110, 208, 374}, {93, 143, 444, 469}, {104, 320, 347, 448}};

    public static void main(String[] args) {
        fourAtLeast();
        withinTwo();
        unlikePlaces();
        looseSpots();
        mostFirst();
        alikeOnes();
        tenFences();
        fencesAsked();
        led();
        ledOthers();
        count();
        status();
        Edges.end();
    }

    private static void due(String call, int got, int want) {
        Edges.due(call, got, want);
    }

    private static int fences(int... places) {
        return Edges.book(places).fences(0);
    }

    private static void ledAre(PostHouses x, int week, int what, int... want) {
        for (int hole = 0; hole < want.length; hole++) {
            due("led(" + hole + ", " + week + ", " + what + ")", x.led(hole, week, what),
                    want[hole]);
        }
    }

    private static void fourAtLeast() {
        Edges.says("4 at least");
        due("none", fences(), 0);
        due("one", fences(10, 10), 0);
        due("two", fences(10, 10, 20, 10), 0);
        due("three", fences(10, 10, 20, 10, 30, 10), 0);
        due("four", fences(10, 10, 20, 10, 30, 10, 40, 10), 1);
        due("three and one beside", fences(10, 10, 20, 10, 30, 10, 200, 300), 0);
        PostHouses x = Edges.book(10, 10, 20, 10, 30, 10, 40, 10, 50, 10);
        x.strike(4, 1);
        x.strike(0, 2);
        due("five", x.fences(0), 1);
        due("four", x.fences(1), 1);
        due("three", x.fences(2), 0);
        ledAre(x, 0, 0, 3, 3, 3, 3, 3);
        ledAre(x, 1, 0, 3, 3, 3, 3, 0);
        ledAre(x, 2, 0, 0, 4, 4, 4, 0);
    }

    private static void withinTwo() {
        Edges.says("to which most of them lie within 2 (exactly)");
        due("2 above", fences(10, 100, 110, 100, 210, 100, 160, 98), 1);
        due("2 below", fences(10, 100, 110, 100, 210, 100, 160, 102), 1);
        due("3 below", fences(10, 100, 110, 100, 210, 100, 160, 103), 0);
        due("2 beside", fences(100, 10, 100, 110, 100, 210, 102, 160), 1);
        due("3 beside", fences(100, 10, 100, 110, 100, 210, 103, 160), 0);
        due("behind both", fences(100, 100, 110, 100, 120, 100, 400, 102), 1);
        // 30, 40 is 50 long: 100 by 50 is exactly 2, 110 by 50 is more.
        due("exactly 2", fences(0, 0, 30, 40, 300, 400, 10, 10), 1);
        due("exactly 2", fences(0, 0, 30, 40, 300, 400, 5, 10), 1);
        due("2.2", fences(0, 0, 30, 40, 300, 400, 11, 11), 0);
        due("2.2", fences(0, 0, 30, 40, 300, 400, 7, 13), 0);
        // 70, 10 is 70.71 long: 140 by it is less than 2, 150 more.
        due("1.98", fences(100, 100, 170, 110, 310, 130, 100, 102), 1);
        due("2.12", fences(100, 100, 170, 110, 310, 130, 106, 103), 0);
        // 256 times 256 squared is 2 to the 32nd: it may not wrap around to 0.
        due("far away", fences(0, 0, 256, 0, 50, 0, 128, 256), 0);
        due("in the corners", fences(0, 0, 499, 499, 250, 250, 0, 499), 0);
        due("in the corners", fences(0, 0, 499, 499, 250, 250, 100, 102), 1);
    }

    private static void unlikePlaces() {
        Edges.says("the line through two of them (at unlike places)");
        due("four at one place", fences(50, 50, 50, 50, 50, 50, 50, 50), 0);
        due("three at one and one at another", fences(50, 50, 50, 50, 50, 50, 51, 50), 1);
        due("two at one, two at another", fences(50, 50, 50, 50, 300, 70, 300, 70), 1);
        due("three at two places", fences(50, 50, 50, 50, 300, 70), 0);
        PostHouses x = Edges.book(50, 50, 50, 50, 50, 50, 50, 50, 200, 300);
        due("with one elsewhere", x.fences(0), 1);
        ledAre(x, 0, 1, 0, 0, 0, 0, 0);
    }

    private static void looseSpots() {
        Edges.says("of SPOTS in no EXPLAINED HOUSE");
        PostHouses x = Edges.smalls(100, 100);
        x.hole(0, 100, 250, 30, 0);
        x.hole(0, 100, 330, 30, 0);
        due("two of them are the house's", x.fences(0), 0);
        ledAre(x, 0, 0, 2, 2, 2, 2, 4, 4);
        Edges.kinds(x, "");
        due("there is no house", x.fences(0), 1);
        ledAre(x, 0, 0, 3, 4, 3, 4, 3, 3);
        lineThroughTwo();
        // A house of no value above 0 is not explained.
        x = Edges.kinds(Edges.book(100, 100, 120, 100, 100, 140, 100, 300, 100, 400),
                Edges.ELL.replace("}", ",worth 1}"));
        x.trench(0, 0, 499, 499, 1);
        due("explained", x.explained(0, 0), 1);
        due("no fence", x.fences(0), 0);
        due("a house", x.houses(1), 1);
        due("not explained", x.explained(1, 0), 0);
        due("its spots are free", x.fences(1), 1);
        ledAre(x, 1, 0, 3, 4, 3, 3, 3);
        // Those out of the field are no spots, nor are those joined.
        due("one out of the field", fences(480, 10, 490, 10, 499, 10, 500, 10), 0);
        due("all in the field", fences(480, 10, 490, 10, 498, 10, 499, 10), 1);
        x = Edges.book(100, 100, 200, 100, 300, 100);
        x.hole(1, 101, 101, 30, 0);
        due("one joined", x.fences(0), 0);
        x.hole(1, 400, 101, 30, 2);
        due("one of the other digger", x.fences(2), 1);
        ledAre(x, 2, 0, 3, 3, 3, 3, 3);
        ledAre(x, 2, 1, 0, 0, 0, 0, 0);
    }

    /** By a line through one of a house, or of another fence, there would be four. */
    private static void lineThroughTwo() {
        PostHouses x = Edges.book(20, 100, 100, 100, 200, 102, 300, 98, 400, 102);
        due("one that is free", x.fences(0), 1);
        ledAre(x, 0, 0, 3, 3, 3, 3, 3);
        x.hole(0, 20, 120, 30, 1);
        x.hole(0, 60, 100, 30, 1);
        x.hole(0, 60, 120, 30, 1);
        Edges.kinds(x, "kind{step 20 to 20,apart 40 to 40,slack 0,posts 2 to 2}");
        due("the house", x.explained(1, 0), 1);
        due("one of a house", x.fences(1), 0);
        ledAre(x, 1, 0, 2, 4, 4, 4, 4, 2, 2, 2);
        x = Edges.book(20, 100, 100, 100, 200, 102, 300, 98, 400, 102, 20, 20, 20, 210, 20, 320, 20,
                400, 20, 480);
        due("one of another fence", x.fences(0), 1);
        ledAre(x, 0, 0, 3, 4, 4, 4, 4, 3, 3, 3, 3, 3);
    }

    private static void mostFirst() {
        Edges.says("those are its, and not looked at any more; then the next one.");
        // Four in a column told first, five in a row of which one is in both.
        PostHouses x = Edges.book(100, 100, 100, 170, 100, 290, 100, 400, 200, 100, 310, 100, 450,
                100, 20, 100);
        due("the row takes the one in both", x.fences(0), 1);
        ledAre(x, 0, 0, 3, 4, 4, 4, 3, 3, 3, 3);
        ledAre(x, 0, 1, 0, NONE, NONE, NONE, 0, 0, 0, 0);
        x.hole(0, 100, 480, 30, 1);
        due("five in each", x.fences(1), 2);
        ledAre(x, 1, 1, 0, 0, 0, 0, 1, 1, 1, 1, 0);
        x.hole(0, 480, 101, 30, 2);
        due("six in the row", x.fences(2), 2);
        ledAre(x, 2, 1, 0, 1, 1, 1, 0, 0, 0, 0, 1, 0);
    }

    private static void alikeOnes() {
        Edges.says("of alike ones that of the lower SPOT, then of the lower other one");
        int[] columns = {400, 50, 100, 60, 100, 170, 100, 290, 100, 440, 400, 130, 400, 260, 400,
            370};
        PostHouses x = Edges.book(columns);
        due("two", x.fences(0), 2);
        ledAre(x, 0, 1, 0, 1, 1, 1, 1, 0, 0, 0);
        // Two lines through the first one: of 1, 3, 5 and of 2, 4, 6.
        x = Edges.book(50, 50, 50, 150, 160, 50, 50, 280, 290, 50, 50, 430, 450, 50);
        due("one", x.fences(0), 1);
        ledAre(x, 0, 0, 3, 3, 4, 3, 4, 3, 4);
        x = Edges.book(50, 50, 160, 50, 50, 150, 290, 50, 50, 280, 450, 50, 50, 430);
        ledAre(x, 0, 0, 3, 3, 4, 3, 4, 3, 4);
        // Two lines through the last one.
        x = Edges.book(50, 150, 160, 50, 50, 280, 290, 50, 50, 430, 450, 50, 50, 50);
        ledAre(x, 0, 0, 3, 4, 3, 4, 3, 4, 3);
    }

    private static void tenFences() {
        Edges.says("then the next one.");
        PostHouses x = new PostHouses();
        for (int i = 0; i < 40; i++) {
            x.hole(0, 3 + i % 10 * 50, COLUMNS[i % 10][i / 10], 30, 0);
        }
        due("ten", x.fences(0), 10);
        for (int hole = 0; hole < 40; hole++) {
            due("how " + hole, x.led(hole, 0, 0), 3);
            due("which " + hole, x.led(hole, 0, 1), hole % 10);
        }
        x.strike(10, 1);
        due("nine", x.fences(1), 9);
        due("three alone", x.led(0, 1, 0), 4);
        due("the next ones are the first ones", x.led(1, 1, 1), 0);
        due("the last one", x.led(39, 1, 1), 8);
    }

    private static void fencesAsked() {
        Edges.says("`int fences(int known)`: How many FENCES as known in a WEEK; NONE.");
        PostHouses x = Edges.book(10, 10, 20, 10, 30, 10);
        x.hole(0, 40, 10, 5, 400);
        due("the week ahead", x.fences(399), 0);
        due("the last week", x.fences(400), 1);
        due("week", x.fences(401), NONE);
        due("week", x.fences(-1), NONE);
        due("none told", new PostHouses().fences(0), 0);
        due("none told", new PostHouses().fences(401), NONE);
    }

    private static void led() {
        Edges.says("0 not known or STRUCK, 1 no SPOT (out of the FIELD), 2 in an EXPLAINED HOUSE "
                + "(JOINED too), 3 in a FENCE, 4 alone");
        PostHouses x = Edges.smalls(300, 300, 100, 100);
        x.hole(1, 101, 101, 5, 0);
        x.hole(0, 500, 207, 5, 0);
        x.hole(1, -1, 7, 5, 0);
        x.hole(0, 499, 207, 5, 0);
        x.hole(1, 0, 7, 5, 0);
        x.hole(0, 450, 450, 5, 9);
        ledAre(x, 8, 0, 2, 2, 2, 2, 2, 2, 2, 2, 2, 1, 1, 4, 4, 0);
        ledAre(x, 8, 1, 0, 0, 0, 0, 1, 1, 1, 1, 1, NONE, NONE, NONE, NONE, NONE);
        due("known", x.led(13, 9, 0), 4);
        x.strike(8, 10);
        x.strike(9, 10);
        due("struck", x.led(8, 10, 0), 0);
        due("struck out of the field", x.led(9, 10, 0), 0);
        due("struck", x.led(8, 10, 1), NONE);
        x.strike(4, 11);
        x.strike(5, 11);
        due("the house is none", x.led(6, 11, 0), 4);
        due("the house is none", x.led(6, 11, 1), NONE);
        due("the other one is", x.led(0, 11, 1), 0);
        // Of two explained houses the number is that among all houses.
        x = Edges.book(100, 100, 120, 100, 100, 140, 100, 60, 300, 300, 320, 300, 300, 340);
        Edges.kinds(x, Edges.ELL);
        due("three", x.houses(0), 3);
        due("two explained", x.explained(0, 0), 2);
        ledAre(x, 0, 0, 2, 2, 2, 4, 2, 2, 2);
        ledAre(x, 0, 1, 0, 0, 0, NONE, 2, 2, 2);
    }

    private static void ledOthers() {
        Edges.says("for what 1 the HOUSE's or FENCE's number (NONE for others). NONE without.");
        PostHouses x = Edges.smalls(100, 100);
        for (int what : new int[] {-1, 2, MAX, MIN}) {
            due("what " + what, x.led(0, 0, what), NONE);
        }
        for (int what = 0; what <= 1; what++) {
            for (int hole : new int[] {-1, 4, 39, 40, MAX, MIN}) {
                due("hole " + hole, x.led(hole, 0, what), NONE);
            }
            for (int week : new int[] {-1, 401, MAX, MIN}) {
                due("week " + week, x.led(0, week, what), NONE);
            }
        }
    }

    private static void count() {
        Edges.says("0 HOLES, 1 RETOLD, 2 TRENCHES, 3 PLOUGHED, 4 KINDS, 5 CUTS, 6 DATES, 7 bytes of "
                + "the TAPE. NONE for others.");
        PostHouses x = Edges.book(10, 10, 20, 20);
        int[] want = {2, 1, 2, 3, 4, 5, 6, 7};
        for (int i = 0; i < 6; i++) {
            for (int what = 1; what <= 6; what++) {
                if (i < want[what]) {
                    tell(x, what);
                }
            }
        }
        Edges.kinds(x, "kind{};kind{};kind{};kind{}");
        x.feed(0, 0, 0, 0, 0);
        x.end(7);
        for (int what = 0; what <= 7; what++) {
            due("what " + what, x.count(what), want[what]);
        }
        for (int what : new int[] {-1, 8, MAX, MIN}) {
            due("what " + what, x.count(what), NONE);
        }
        x.strike(0, 0);
        due("struck ones are counted", x.count(0), 2);
    }

    private static void tell(PostHouses x, int what) {
        switch (what) {
            case 1 -> x.retell(0, 5, 400);
            case 2 -> x.trench(0, 0, 1, 1, 400);
            case 3 -> x.plough(0, 0, 1, 1, 0);
            case 5 -> x.cut(0, 1, 400);
            case 6 -> x.date(0, 0, 2000, 400);
            default -> x.fault();
        }
    }

    private static void status() {
        Edges.says("What the latest call of hole, retell, strike, trench, plough, error, kinds, "
                + "cut, date was REFUSED by; 0 if it was not, or ahead of any.");
        PostHouses x = new PostHouses();
        due("ahead of any", x.status(), 0);
        x.houses(401);
        x.end(5);
        due("ahead of any", x.status(), 0);
        for (int i = 0; i < 2; i++) {
            Edges.told("hole", x, x.hole(2, 0, 0, 0, 0), -1);
            Edges.told("hole", x, x.hole(0, 10 + 30 * i, 9, 9, 0), i);
            Edges.told("retell", x, x.retell(9, 0, 0), -2);
            Edges.told("retell", x, x.retell(0, 0, 0), 1 + i);
            Edges.told("strike", x, x.strike(9, 0), -2);
            Edges.told("strike", x, x.strike(0, 400), 0);
            Edges.told("trench", x, x.trench(5, 5, 4, 4, 0), -1);
            Edges.told("trench", x, x.trench(5, 5, 6, 6, 0), 1 + i);
            Edges.told("plough", x, x.plough(5, 5, 4, 4, 0), -1);
            Edges.told("plough", x, x.plough(5, 5, 6, 6, 0), 1 + i);
            Edges.told("error", x, x.error(6), -1);
            Edges.told("error", x, x.error(2), 2);
            Edges.feed(x, "=");
            Edges.told("kinds", x, x.kinds(), -6);
            Edges.told("kinds", x, x.kinds(), 0);
            Edges.told("cut", x, x.cut(0, 0, 0), -4);
            Edges.told("date", x, x.date(0, 5, 6, 0), 1 + i);
            Edges.told("date", x, x.date(9, 0, 0, 0), -2);
        }
        Edges.told("cut", x, x.cut(0, 1, 0), 1);
        Edges.told("cut", x, x.cut(1, 1, 0), -4);
        askAll(x);
        due("others don't tell it", x.status(), -4);
        due("asked again", x.status(), -4);
    }

    private static void askAll(PostHouses x) {
        for (int week = 0; week <= 401; week += 401) {
            x.frame(week, 0);
            x.spot(0, week, 0);
            x.feed(0, 0, 0, 0, 0);
            x.end(week);
            x.fault();
            x.houses(week);
            x.house(week, 0, 0);
            x.place(week, 0, 0, 0);
            x.explained(week, 0);
            x.strength(0, week);
            x.pair(week, 0, 1, 0);
            x.phases(week, 0);
            x.phase(week, 0);
            x.start(week, 0, 0);
            x.stands(week, 0, 0);
            x.fences(week);
            x.led(0, week, 0);
            x.count(week);
        }
    }
}
