/** The lines of the promises that tell something, and what they answer, by their own words. */
public final class PromiseLinesTest {
    private static final int NONE = Edges.NONE;
    private static final int NOTHING = Edges.NOTHING;
    private static final String WIDE = "kind{posts 2 to 2,step 20 to 20,apart 40 to 40,slack 0}";

    public static void main(String[] args) {
        hole();
        retell();
        strike();
        trench();
        plough();
        cut();
        date();
        refusedBy();
        ownFrames();
        spot();
        spotsInOrder();
        kindNumbers();
        house();
        asKnown();
        start();
        led();
        fullRun();
        twoBooks();
        Edges.end();
    }

    private static void due(String call, int got, int want) {
        Edges.due(call, got, want);
    }

    private static void hole() {
        Edges.says("`int hole(int digger, int x, int y, int depth, int known)`: A HOLE: its number. "
                + "-1; -5.");
        PostHouses x = new PostHouses();
        for (int i = 0; i < 40; i++) {
            Edges.told("a refused one has no number", x, x.hole(i % 2, i, 1100, 0, 0), -1);
            Edges.told("one as another", x, x.hole(i % 3 / 2, 7, 7, 7, 400 - i), i);
            due("how many", x.count(0), i + 1);
        }
        Edges.told("a number that can't be comes first", x, x.hole(0, 0, 0, 0, 401), -1);
        Edges.told("no room", x, x.hole(0, 0, 0, 0, 400), -5);
    }

    private static void retell() {
        Edges.says("`int retell(int hole, int depth, int known)`: RETOLD: how many were. -1; -2; "
                + "-5.");
        PostHouses x = Edges.book(10, 10, 20, 20);
        for (int i = 0; i < 60; i++) {
            Edges.told("no such hole", x, x.retell(2, 5, 0), -2);
            Edges.told("of each hole", x, x.retell(i % 2, 5, 400 - i), i + 1);
        }
        Edges.told("full", x, x.retell(0, 5, 0), -5);
        Edges.told("no such hole comes first", x, x.retell(2, 5, 0), -2);
        Edges.told("a number that can't be comes first", x, x.retell(2, 201, 0), -1);
        Edges.told("a number that can't be comes first", x, x.retell(0, 5, -1), -1);
        due("how many", x.count(1), 60);
    }

    private static void strike() {
        Edges.says("`int strike(int hole, int known)`: STRUCK: 0. -1; -2.");
        PostHouses x = Edges.book(10, 10, 20, 20);
        for (int i = 0; i < 100; i++) {
            Edges.told("as often as one likes", x, x.strike(i % 2, 300), 0);
        }
        Edges.told("no such hole", x, x.strike(2, 300), -2);
        Edges.told("a number that can't be comes first", x, x.strike(2, 401), -1);
        due("the holes are there", x.count(0), 2);
        due("the week ahead", x.spot(1, 299, 4), 1);
        due("the week", x.spot(1, 300, 4), 0);
    }

    private static void trench() {
        Edges.says("`int trench(int x, int y, int u, int v, int known)`: A TRENCH: how many there "
                + "are. -1; -5.");
        PostHouses x = new PostHouses();
        for (int i = 0; i < 20; i++) {
            Edges.told("week", x, x.trench(0, 0, 9, 9, 401), -1);
            Edges.told("one place is enough", x, x.trench(i, i, i, i, 20 * i), i + 1);
        }
        Edges.told("full", x, x.trench(0, 0, 9, 9, 0), -5);
        Edges.told("a number that can't be comes first", x, x.trench(0, 0, 9, 9, -1), -1);
        due("how many", x.count(2), 20);
        due("none is ploughed", x.count(3), 0);
    }

    private static void plough() {
        Edges.says("`int plough(int x, int y, int u, int v, int depth)`: PLOUGHED: how many were "
                + "told. -1; -5.");
        PostHouses x = new PostHouses();
        for (int i = 0; i < 20; i++) {
            Edges.told("depth", x, x.plough(0, 0, 9, 9, 101), -1);
            Edges.told("one place is enough", x, x.plough(i, i, i, i, 5 * i), i + 1);
        }
        Edges.told("full", x, x.plough(0, 0, 9, 9, 0), -5);
        Edges.told("a number that can't be comes first", x, x.plough(0, 0, 9, 9, -1), -1);
        due("how many", x.count(3), 20);
        due("no trench", x.count(2), 0);
    }

    private static void cut() {
        Edges.says("`int cut(int later, int earlier, int known)`: A CUT: how many there are. -1; "
                + "-2; -4; -5.");
        PostHouses x = Edges.book(10, 10, 20, 20);
        for (int i = 0; i < 60; i++) {
            Edges.told("itself", x, x.cut(1, 1, 0), -4);
            Edges.told("one or the other", x, x.cut(i % 2, 1 - i % 2, 400 - i), i + 1);
        }
        Edges.told("full", x, x.cut(0, 1, 0), -5);
        Edges.told("itself comes first", x, x.cut(1, 1, 0), -4);
        Edges.told("no such hole comes first", x, x.cut(2, 2, 0), -2);
        Edges.told("a number that can't be comes first", x, x.cut(2, 2, 401), -1);
        due("how many", x.count(5), 60);
    }

    private static void date() {
        Edges.says("`int date(int hole, int from, int to, int known)`: A DATE: how many there are. "
                + "-1; -2; -5.");
        PostHouses x = Edges.book(10, 10, 20, 20);
        for (int i = 0; i < 60; i++) {
            Edges.told("no such hole", x, x.date(2, 5, 5, 0), -2);
            Edges.told("of each hole", x, x.date(i % 2, 30 * i, 2000, 400 - i), i + 1);
        }
        Edges.told("full", x, x.date(0, 5, 5, 0), -5);
        Edges.told("no such hole comes first", x, x.date(2, 5, 5, 0), -2);
        Edges.told("a number that can't be comes first", x, x.date(2, 5, 4, 0), -1);
        due("how many", x.count(6), 60);
    }

    private static void refusedBy() {
        Edges.says("REFUSED by: -1 a number that can't be; -2 there is no such HOLE, KIND; -4 twice "
                + "(a HOLE that cuts itself); -5 no room; -6 a text that can't be.");
        PostHouses x = Edges.book(10, 10, 20, 20);
        Edges.told("a number", x, x.error(-1), -1);
        Edges.told("a hole", x, x.strike(2, 0), -2);
        Edges.told("itself", x, x.cut(0, 0, 0), -4);
        Edges.told("once", x, x.cut(0, 1, 0), 1);
        Edges.told("the same again is another one", x, x.cut(0, 1, 0), 2);
        x.feed(0, 0, 0, 0, 0);
        Edges.told("a text", x, x.kinds(), -6);
        due("a kind that isn't there is NONE", x.strength(0, 0), NONE);
        due("and no refusal", x.status(), -6);
        while (x.count(3) < 20) {
            x.plough(0, 0, 0, 0, 0);
        }
        Edges.told("room", x, x.plough(0, 0, 0, 0, 0), -5);
    }

    private static void ownFrames() {
        Edges.says("in that DIGGER's own frame");
        Edges.says("each HOLE of DIGGER 1 comes into the FIELD's frame, which is DIGGER 0's own.");
        int[] first = {100, 150, 300, 170, 250, 400};
        for (int turn = 0; turn < 4; turn++) {
            PostHouses x = Edges.book(first);
            // What comes to the first's places by this turn and a shift of -4, 7.
            for (int i = 0; i < 8; i += 2) {
                int px = i < 6 ? first[i] + 4 : 33;
                int py = i < 6 ? first[i + 1] - 7 : 44;
                for (int back = turn; back > 0; back--) {
                    int before = py;
                    py = 499 - px;
                    px = before;
                }
                x.hole(1, px, py, 30, 0);
            }
            x.error(0);
            due("turn", x.frame(0, 0), turn);
            due("dx", x.frame(0, 1), -4);
            due("dy", x.frame(0, 2), 7);
            due("hits", x.frame(0, 3), 3);
            for (int i = 0; i < 3; i++) {
                due("the first's own", x.spot(i, 0, 0), first[2 * i]);
                due("the first's own", x.spot(i, 0, 1), first[2 * i + 1]);
                due("the second's there", x.spot(3 + i, 0, 0), first[2 * i]);
                due("the second's there", x.spot(3 + i, 0, 1), first[2 * i + 1]);
            }
            due("the one that hits none", x.spot(6, 0, 0), 29);
            due("the one that hits none", x.spot(6, 0, 1), 51);
        }
    }

    private static void spot() {
        Edges.says("`int spot(int hole, int known, int what)`: Of a HOLE as known in a WEEK what 0 x "
                + "in the FIELD's frame, 1 y, 2 the SPOT that it is or is JOINED to (NONE: "
                + "neither), 3 that SPOT's FULL DEPTH (NONE likewise), 4 1 if it is a SPOT itself, "
                + "else 0.");
        PostHouses x = Edges.book(100, 150, -1, 150);
        x.hole(1, 101, 152, 40, 0);
        x.hole(1, 300, 20, 50, 0);
        x.hole(1, -600, 1099, 60, 0);
        x.plough(90, 140, 110, 160, 9);
        int[][] want = {{100, 150, 0, 49, 1}, {-1, 150, NONE, NONE, 0}, {101, 152, 0, 49, 0},
            {300, 20, 3, 50, 1}, {-600, 1099, NONE, NONE, 0}};
        for (int hole = 0; hole < want.length; hole++) {
            for (int what = 0; what < 5; what++) {
                due("spot(" + hole + ", 0, " + what + ")", x.spot(hole, 0, what),
                        want[hole][what]);
            }
        }
    }

    /** HOLES of both diggers by turns: those of the second are the lower in each pair. */
    private static void spotsInOrder() {
        Edges.says("by their numbers.");
        int[] places = {100, 100, 130, 100, 100, 150, 130, 150};
        PostHouses x = new PostHouses();
        for (int i = 0; i < 4; i++) {
            x.hole(1 - i % 2, places[2 * i], places[2 * i + 1], 30, 0);
        }
        Edges.kinds(x, Edges.SMALL);
        due("no hits", x.frame(0, 3), 0);
        for (int what = 1; what <= 3; what++) {
            due("p, q, r", x.house(0, 0, what), what - 1);
        }
        // A place between two of them is the lower's, whoever dug it.
        for (int digger = 0; digger < 2; digger++) {
            x = Edges.book(100, 100, 120, 100, 100, 140);
            x.hole(digger, 122, 140, 30, 0);
            x.hole(1 - digger, 118, 140, 30, 0);
            x.error(0);
            // Two others hold the second's frame where it is.
            for (int i = 0; i < 4; i++) {
                x.hole(i % 2, 300 + i / 2 * 50, 300 + i / 2 * 70, 30, 0);
            }
            Edges.kinds(x, WIDE.replace("slack 0", "slack 3"));
            due("hits", x.frame(0, 3), 2);
            due("the lower", x.place(0, 0, 1, 1), 3);
        }
    }

    private static void kindNumbers() {
        Edges.says("numbered from 0 on.");
        PostHouses x = Edges.book(100, 100, 120, 100, 100, 140, 300, 100, 330, 100, 300, 160);
        String none = "kind{step 99 to 99,apart 5 to 5}";
        String other = "kind{posts 2 to 2,step 30 to 30,apart 60 to 60,slack 0,worth 9}";
        Edges.kinds(x, none + ";" + WIDE + ";" + none + ";" + other);
        due("two houses", x.houses(0), 2);
        due("the second kind", x.house(0, 0, 0), 1);
        due("the fourth kind", x.house(0, 1, 0), 3);
        for (int kind = -1; kind <= 4; kind++) {
            boolean isThere = kind >= 0 && kind <= 3;
            due("kind " + kind, Math.min(0, x.strength(kind, 0)), isThere ? 0 : NONE);
            due("kind " + kind, x.strength(kind, 0) > 0 ? 1 : 0, kind == 1 || kind == 3 ? 1 : 0);
        }
    }

    /** Each of the numbers is another one. */
    private static void house() {
        Edges.says("Of a HOUSE as known in a WEEK what 0 KIND, 1 p, 2 q, 3 r, 4 posts, 5 FILLED, 6 "
                + "MISSED, 7 LOST, 8 UNSEEN, 9 VALUE (it may be below 0), 10 1 EXPLAINED, else 0.");
        PostHouses x = new PostHouses();
        for (int i = 0; i < 11; i++) {
            x.hole(0, 400, 20 + 40 * i, 5, 0);
        }
        for (int i = 7; i >= 0; i--) {
            x.hole(0, 100 + 20 * i, 100, 30, 0);
        }
        x.hole(0, 100, 140, 30, 0);
        x.hole(0, 120, 140, 30, 0);
        x.trench(130, 140, 230, 140, 0);
        x.plough(170, 140, 230, 140, 25);
        String kind = "kind{posts 8 to 8,step 20 to 20,apart 40 to 40,slack 0,deep 20 to 300,miss "
                + "2,worth ";
        Edges.kinds(x, "kind{step 99 to 99};" + kind + "4}");
        int[] first = {1, 18, 17, 19, 8, 10, 2, 3, 1, 24, 1};
        int[] second = {1, 17, 16, 20, 8, 8, 2, 3, 3, 16, 0};
        for (int what = 0; what < first.length; what++) {
            due("what " + what, x.house(0, 0, what), first[what]);
            due("what " + what + " of the next", x.house(0, 1, what), second[what]);
        }
    }

    private static void asKnown() {
        Edges.says("EXPLAINED as known in a WEEK: how many HOUSES (what 0), their VALUES together "
                + "(1); NONE.");
        Edges.says("FRAME as known in a WEEK: what 0 TURN, 1 dx, 2 dy, 3 HITS.");
        PostHouses x = new PostHouses();
        int[] places = {100, 100, 120, 100, 100, 140, 120, 140};
        for (int i = 0; i < 4; i++) {
            x.hole(0, places[2 * i], places[2 * i + 1], 30, 10 * i);
            x.hole(1, places[2 * i] + 5, places[2 * i + 1] - 3, 30, 10 * i + 5);
        }
        Edges.kinds(x, WIDE);
        x.error(0);
        x.strike(0, 50);
        x.strike(6, 60);
        // Asked from the last to the first, and from the first to the last again.
        int[][] want = {{0, 0, 0, 0}, {5, 1, 0, 0}, {15, 2, 0, 0}, {20, 2, 1, 30}, {29, 3, 1, 30},
            {30, 3, 1, 40}, {35, 4, 1, 40}, {50, 3, 1, 40}, {60, 2, 1, 40}, {400, 2, 1, 40}};
        for (int i = -want.length; i < want.length; i++) {
            int[] w = want[i < 0 ? -1 - i : i];
            due("hits in " + w[0], x.frame(w[0], 3), w[1]);
            due("dx in " + w[0], x.frame(w[0], 1), w[1] == 0 ? 0 : -5);
            due("dy in " + w[0], x.frame(w[0], 2), w[1] == 0 ? 0 : 3);
            due("houses in " + w[0], x.explained(w[0], 0), w[2]);
            due("their values in " + w[0], x.explained(w[0], 1), w[3]);
        }
        due("the struck one's partner takes its place", x.place(50, 0, 0, 0), 1);
        due("the struck one's partner takes its place", x.place(60, 0, 1, 1), 7);
    }

    private static void start() {
        Edges.says("`int start(int known, int house, int what)`: EARLIEST (what 0), LATEST (1) of an "
                + "EXPLAINED HOUSE; NONE (none, too).");
        PostHouses x = Edges.kinds(Edges.book(100, 100, 120, 100, 100, 140, 100, 60), WIDE);
        x.date(3, 7, 9, 0);
        due("not of one that is not explained", x.house(0, 1, 10), 0);
        due("earliest", x.start(0, 0, 0), 0);
        due("latest", x.start(0, 0, 1), 2000);
        due("none", x.start(0, 1, 0), NONE);
        due("none", x.start(0, 1, 1), NONE);
        x.date(0, 7, 9, 1);
        due("earliest", x.start(1, 0, 0), 7);
        due("latest", x.start(1, 0, 1), 9);
        x.date(1, 10, 10, 2);
        due("none", x.start(2, 0, 0), NONE);
        due("none", x.start(2, 0, 1), NONE);
    }

    private static void led() {
        Edges.says("How a HOLE is led as known in a WEEK: 0 not known or STRUCK, 1 no SPOT (out of "
                + "the FIELD), 2 in an EXPLAINED HOUSE (JOINED too), 3 in a FENCE, 4 alone; for "
                + "what 1 the HOUSE's or FENCE's number (NONE for others). NONE without.");
        PostHouses x = Edges.book(100, 100, 120, 100, 100, 140, 500, 100, 10, 450, 110, 450, 210,
                451, 310, 449, 400, 20);
        x.hole(1, 101, 101, 30, 0);
        x.hole(1, 209, 450, 30, 0);
        x.hole(1, 500, 101, 30, 0);
        x.hole(0, 300, 20, 30, 5);
        x.strike(12, 9);
        Edges.kinds(x, WIDE);
        int[][] want = {{2, 0}, {2, 0}, {2, 0}, {1, NONE}, {3, 0}, {3, 0}, {3, 0}, {3, 0},
            {4, NONE}, {2, 0}, {3, 0}, {1, NONE}, {4, NONE}};
        for (int hole = 0; hole < want.length; hole++) {
            for (int what = 0; what < 2; what++) {
                due("led(" + hole + ", 5, " + what + ")", x.led(hole, 5, what), want[hole][what]);
            }
            due("no what", x.led(hole, 5, 2), NONE);
            due("no what", x.led(hole, 5, -1), NONE);
            due("no week", x.led(hole, 401, 0), NONE);
        }
        due("not known yet", x.led(12, 4, 0), 0);
        due("not known yet", x.led(12, 4, 1), NONE);
        due("struck", x.led(12, 9, 0), 0);
        due("struck", x.led(12, 9, 1), NONE);
        due("no hole", x.led(13, 5, 0), NONE);
    }

    private static void fullRun() {
        Edges.says("An object is used for at most 512 calls after it has been made");
        PostHouses x = new PostHouses();
        int calls = 0;
        for (int i = 0; i < 40; i++) {
            due("hole", x.hole(0, 20 + i % 10 * 40, 20 + i / 10 * 100, 30, 0), i);
            calls++;
        }
        x.feed(0x6b696e64, 0x7b7d0000, 0, 0, 0);
        x.end(6);
        due("kinds", x.kinds(), 1);
        calls += 3;
        int fences = x.fences(0);
        calls++;
        while (calls < 510) {
            due("strike is told again and again", x.strike(calls / 2 % 40, 400), 0);
            due("all stays", x.fences(calls % 400), fences);
            calls += 2;
        }
        due("call 511", x.led(39, 400, 0), 0);
        due("call 512", x.led(39, 399, 0) > 1 ? 1 : 0, 1);
    }

    private static void twoBooks() {
        Edges.says("`PostHouses()`: No HOLES, KINDS.");
        PostHouses x = Edges.smalls(100, 100);
        PostHouses y = new PostHouses();
        due("no holes", y.count(0), 0);
        due("no kinds", y.count(4), 0);
        due("no hole", y.led(0, 0, 0), NONE);
        due("no house", y.house(0, 0, 0), NOTHING);
        y.hole(0, 7, 7, 7, 7);
        y.error(5);
        y.kinds();
        due("the other one has its own", x.count(0), 4);
        due("the other one has its own", x.count(4), 1);
        due("the other one has its own", x.houses(0), 1);
        due("the other one has its own", x.spot(0, 0, 0), 100);
        due("the other one has its own", x.error(2), 2);
    }
}
