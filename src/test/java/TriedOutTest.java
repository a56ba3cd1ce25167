import java.util.ArrayList;
import java.util.Arrays;
import java.util.List;
import java.util.Random;

/**
 * What the document tells as the best, the first or the number of all ways there are: here all ways
 * are tried out, on small books, with nothing of them but what the class answers to other calls.
 */
public final class TriedOutTest {
    private static final int NONE = Edges.NONE;
    private static final int BOOKS = 60;
    /** Of more HOUSES there are too many sets. */
    private static final int MOST_TRIED = 16;
    /** The first year of the DATES in a book. */
    private static final int BASE = 900;

    private static Random random = new Random(0);
    /** The EXPLAINED HOUSES of the book at hand by number, and how they are related. */
    private static int[] houses = {};
    private static int[] lives = {};
    private static boolean[][] meet = {};
    private static boolean[][] later = {};

    public static void main(String[] args) {
        explained();
        strength();
        phasesOfRows();
        phasesOfChains();
        starts();
        frameworks();
        explainedAlone();
        System.out.println("all ways are tried out");
        Edges.end();
    }

    private static void due(String call, int got, int want) {
        Edges.due(call, got, want);
    }

    // EXPLAINED

    /** A book with many HOUSES that have SPOTS in common. */
    private static PostHouses crowd(int seed) {
        random = new Random(seed);
        PostHouses x = new PostHouses();
        for (int i = 0; i < 10 + seed % 9; i++) {
            x.hole(0, 100 + 20 * random.nextInt(6), 100 + 40 * random.nextInt(3), 30, 0);
        }
        x.trench(0, 0, 130, 499, 0);
        String rest = "step 20 to 20,apart 40 to 40,slack 0,posts 2 to ";
        Edges.kinds(x, "kind{miss 1,worth " + (1 + seed % 3) + "," + rest + "2};kind{worth "
                + (2 + seed % 2) + "," + rest + "3}");
        return x;
    }

    private static long spotsOf(PostHouses x, int house) {
        long spots = 0;
        for (int i = 0; i < x.house(0, house, 4); i++) {
            for (int j = 0; x.place(0, house, i, j) != Edges.NOTHING; j++) {
                int spot = x.place(0, house, i, j);
                spots |= spot < 0 ? 0 : 1L << spot;
            }
        }
        return spots;
    }

    private static void explained() {
        Edges.says("EXPLAINED is that set of HOUSES with VALUES above 0, no two of which have a SPOT "
                + "in common, whose VALUES together are greatest; of alike ones that of the "
                + "fewest HOUSES, then the first as rows of their numbers.");
        int most = 0;
        int played = 0;
        for (int seed = 0; seed < 2 * BOOKS; seed++) {
            PostHouses x = crowd(seed);
            int size = x.houses(0);
            if (size > MOST_TRIED) {
                continue;
            }
            played++;
            long[] spots = new long[size];
            int[] values = new int[size];
            for (int house = 0; house < size; house++) {
                spots[house] = spotsOf(x, house);
                values[house] = x.house(0, house, 9);
                due("filled", Long.bitCount(spots[house]), x.house(0, house, 5));
            }
            List<Integer> best = bestSet(spots, values);
            most = Math.max(most, best.size());
            int value = 0;
            for (int house : best) {
                value += values[house];
            }
            due("how many in book " + seed, x.explained(0, 0), best.size());
            due("their values in book " + seed, x.explained(0, 1), value);
            for (int house = 0; house < size; house++) {
                due("house " + house + " of book " + seed, x.house(0, house, 10),
                        best.contains(house) ? 1 : 0);
            }
        }
        due("there are sets of three", Math.min(most, 3), 3);
        due("many books were played", Math.min(played, BOOKS), BOOKS);
    }

    /** All sets one after another, the better one stays. */
    private static List<Integer> bestSet(long[] spots, int[] values) {
        List<Integer> best = new ArrayList<>();
        int bestValue = 0;
        for (int set = 0; set < 1 << spots.length; set++) {
            List<Integer> these = new ArrayList<>();
            long taken = 0;
            int value = 0;
            boolean can = true;
            for (int house = 0; house < spots.length; house++) {
                if ((set >> house & 1) == 1) {
                    can &= values[house] > 0 && (taken & spots[house]) == 0;
                    taken |= spots[house];
                    value += values[house];
                    these.add(house);
                }
            }
            boolean better = value > bestValue || value == bestValue && (these.size() < best.size()
                    || these.size() == best.size() && isAhead(these, best));
            if (can && better) {
                best = these;
                bestValue = value;
            }
        }
        return best;
    }

    private static boolean isAhead(List<Integer> one, List<Integer> other) {
        for (int i = 0; i < one.size(); i++) {
            if (!one.get(i).equals(other.get(i))) {
                return one.get(i) < other.get(i);
            }
        }
        return false;
    }

    // STRENGTH

    private static void strength() {
        Edges.says("STRENGTH of a KIND as known: of seven TRIALS the number of those in which the "
                + "greatest VALUE of a HOUSE of that KIND (0 without) is below what it is: in "
                + "TRIAL t (1 .. 7) the i-th SPOT (of m, from 0 on) has the y of the one whose "
                + "place in order is the rest of i + t by m; all else stays.");
        boolean[] found = new boolean[8];
        for (int seed = 0; seed < BOOKS; seed++) {
            random = new Random(seed);
            int m = 3 + seed % 10;
            int[] px = new int[m];
            int[] py = new int[m];
            for (int i = 0; i < m; i++) {
                px[i] = 100 + 20 * random.nextInt(4);
                py[i] = 100 + 40 * random.nextInt(3);
            }
            int weaker = 0;
            int real = greatestOf(trial(px, py, 0));
            for (int t = 1; t <= 7; t++) {
                weaker += greatestOf(trial(px, py, t)) < real ? 1 : 0;
            }
            due("strength of book " + seed, trial(px, py, 0).strength(0, 0), weaker);
            found[weaker] = true;
        }
        int unlike = 0;
        for (boolean f : found) {
            unlike += f ? 1 : 0;
        }
        due("there are many unlike ones", Math.min(5, unlike), 5);
    }

    /** The book of a TRIAL as another book would have it. */
    private static PostHouses trial(int[] px, int[] py, int t) {
        PostHouses x = new PostHouses();
        for (int i = 0; i < px.length; i++) {
            x.hole(0, px[i], py[(i + t) % px.length], 30 + i, 0);
        }
        x.trench(0, 0, 130, 499, 0);
        return Edges.kinds(x, "kind{step 20 to 20,apart 40 to 40,slack 0,posts 2 to 3,miss 1,pairs "
                + "6}");
    }

    private static int greatestOf(PostHouses x) {
        return x.houses(0) > 0 ? x.house(0, 0, 9) : 0;
    }

    // PHASES

    /** Four posts each, some so near that they MEET, with some CUTS. */
    private static PostHouses meeting(int seed) {
        random = new Random(seed);
        PostHouses x = new PostHouses();
        int count = 2 + seed % 4;
        for (int i = 0; i < count; i++) {
            Edges.small(x, 60 + 23 * i + random.nextInt(9), 60 + 37 * random.nextInt(4));
        }
        Edges.kinds(x, Edges.SMALL.replace("}", ",life 7}"));
        for (int i = random.nextInt(4); i > 0; i--) {
            x.cut(random.nextInt(4 * count), random.nextInt(4 * count), 0);
        }
        return x;
    }

    /** Three posts each, far from one another, with many CUTS, most of them by later ones. */
    private static PostHouses cutting(int seed) {
        random = new Random(seed);
        int count = 2 + seed % 4;
        int[] corners = new int[2 * count];
        for (int i = 0; i < count; i++) {
            corners[2 * i] = 50 + 110 * (i % 3);
            corners[2 * i + 1] = 50 + 150 * (i / 3);
        }
        PostHouses x = Edges.ells(corners);
        Edges.kinds(x, Edges.ELL.replace("}", ",life " + (1 + random.nextInt(9)) + "}"));
        for (int i = 0; i < seed % 6; i++) {
            int one = random.nextInt(3 * count);
            int other = random.nextInt(3 * count);
            boolean turned = random.nextInt(8) == 0;
            x.cut(turned ? Math.min(one, other) : Math.max(one, other),
                    turned ? Math.max(one, other) : Math.min(one, other), 0);
        }
        return x;
    }

    private static void relate(PostHouses x, int life) {
        houses = new int[x.explained(0, 0)];
        int size = 0;
        for (int house = 0; house < x.houses(0); house++) {
            if (x.house(0, house, 10) == 1) {
                houses[size] = house;
                size++;
            }
        }
        lives = new int[size];
        Arrays.fill(lives, life);
        meet = new boolean[size][size];
        later = new boolean[size][size];
        for (int g = 0; g < size; g++) {
            for (int h = 0; h < size; h++) {
                meet[g][h] = x.pair(0, houses[g], houses[h], 0) == 1;
                later[g][h] = x.pair(0, houses[g], houses[h], 1) == 1;
            }
        }
    }

    private static boolean isWay(int[] row) {
        for (int g = 0; g < row.length; g++) {
            for (int h = 0; h < row.length; h++) {
                if (later[g][h] && row[g] <= row[h] || meet[g][h] && row[g] == row[h]) {
                    return false;
                }
            }
        }
        return true;
    }

    private static void phasesOfRows() {
        Edges.says("PHASES: each EXPLAINED HOUSE has a number from 0 on, so that LATER ones have "
                + "higher ones than those that they are LATER than, and those that MEET have "
                + "unlike ones: the fewest PHASES; of those alike the first as rows (HOUSES by "
                + "number). RIVALS: how many such ways there are with as many PHASES (1000 at "
                + "most). None, if there is no way.");
        int met = 0;
        for (int seed = 0; seed < BOOKS; seed++) {
            PostHouses x = meeting(seed);
            relate(x, 7);
            phases(x, "book " + seed);
            met += x.phases(0, 0) > 2 ? 1 : 0;
        }
        due("some have more than two phases", Math.min(5, met), 5);
    }

    private static void phasesOfChains() {
        Edges.says("so that LATER ones have higher ones than those that they are LATER than");
        int none = 0;
        for (int seed = 0; seed < BOOKS; seed++) {
            PostHouses x = cutting(seed);
            relate(x, 0);
            phases(x, "book " + seed);
            none += x.phases(0, 0) == NONE ? 1 : 0;
        }
        due("some have no way, others have", none > 2 && none < BOOKS / 2 ? 1 : 0, 1);
    }

    private static void phases(PostHouses x, String book) {
        int size = houses.length;
        for (int count = size == 0 ? 0 : 1; count <= size; count++) {
            int[] row = new int[size];
            int[] first = null;
            int ways = 0;
            do {
                if (isWay(row)) {
                    ways++;
                    first = first == null ? row.clone() : first;
                }
            } while (next(row, count));
            if (first != null) {
                due("phases of " + book, x.phases(0, 0), count);
                due("rivals of " + book, x.phases(0, 1), Math.min(1000, ways));
                for (int i = 0; i < size; i++) {
                    due("phase of " + houses[i] + " in " + book, x.phase(0, houses[i]), first[i]);
                }
                return;
            }
        }
        due("phases of " + book, x.phases(0, 0), NONE);
        due("rivals of " + book, x.phases(0, 1), NONE);
        for (int house : houses) {
            due("phase of " + house + " in " + book, x.phase(0, house), NONE);
            due("start of " + house + " in " + book, x.start(0, house, 0), NONE);
        }
    }

    /** The next row of numbers below a bound, as rows go; false behind the last. */
    private static boolean next(int[] row, int bound) {
        for (int i = row.length - 1; i >= 0; i--) {
            row[i]++;
            if (row[i] < bound) {
                return true;
            }
            row[i] = 0;
        }
        return false;
    }

    // STARTS

    private static void starts() {
        Edges.says("An EXPLAINED HOUSE stands \"life\" years from its START (0 .. 2000) on; START is "
                + "in all DATES known of its SPOTS and of HOLES JOINED to them; of two HOUSES that "
                + "MEET, or of which one is LATER, the one of the higher PHASE has its START not "
                + "ahead of the other one's START and life together. EARLIEST, LATEST of a HOUSE: "
                + "the least and the greatest START that it can have so, all others having some; "
                + "none, if they can't all have one.");
        int none = 0;
        int some = 0;
        for (int seed = 0; seed < 2 * BOOKS; seed++) {
            boolean isCut = seed % 2 == 0;
            PostHouses x = isCut ? cutting(seed / 2) : meeting(seed / 2);
            relate(x, isCut ? lifeOf(x) : 7);
            if (x.phases(0, 0) == NONE || houses.length > 4) {
                continue;
            }
            tryStarts(x, "book " + seed);
            none += x.start(0, houses[0], 0) == NONE ? 1 : 0;
            some += x.start(0, houses[0], 0) == NONE ? 0 : 1;
        }
        due("some books have starts, some have none", Math.min(none, some) > 5 ? 1 : 0, 1);
    }

    /** The life of the one KIND, as the years tell it in which its HOUSES stand. */
    private static int lifeOf(PostHouses x) {
        int last = 2000;
        while (x.stands(0, last, 1) > 0) {
            last++;
        }
        return last - 2000;
    }

    /** Each HOUSE is dated twice: the years that both have are six or so. */
    private static void tryStarts(PostHouses x, String book) {
        int size = houses.length;
        int[] from = new int[size];
        int[] to = new int[size];
        for (int i = 0; i < size; i++) {
            from[i] = BASE + random.nextInt(9) + 5 * Math.max(0, x.phase(0, houses[i]));
            to[i] = from[i] + 2 + random.nextInt(6);
            int wide = random.nextInt(4);
            x.date(x.house(0, houses[i], 1 + random.nextInt(3)), from[i] - wide, to[i], 0);
            x.date(x.house(0, houses[i], 1 + random.nextInt(3)), from[i], to[i] + wide, 0);
        }
        int[] earliest = new int[size];
        int[] latest = new int[size];
        Arrays.fill(earliest, Integer.MAX_VALUE);
        Arrays.fill(latest, NONE);
        int[] row = new int[size];
        do {
            boolean can = true;
            for (int i = 0; i < size; i++) {
                can &= from[i] + row[i] <= to[i];
            }
            if (can && isInTurn(x, from, row)) {
                for (int i = 0; i < size; i++) {
                    earliest[i] = Math.min(earliest[i], from[i] + row[i]);
                    latest[i] = Math.max(latest[i], from[i] + row[i]);
                }
            }
        } while (next(row, 8));
        for (int i = 0; i < size; i++) {
            boolean none = latest[i] == NONE;
            due("earliest of " + houses[i] + " in " + book, x.start(0, houses[i], 0),
                    none ? NONE : earliest[i]);
            due("latest of " + houses[i] + " in " + book, x.start(0, houses[i], 1), latest[i]);
        }
        for (int year = BASE; year < BASE + 60; year++) {
            boolean none = size > 0 && latest[0] == NONE;
            due("for sure in " + year + ", " + book, x.stands(0, year, 0),
                    none ? NONE : sureIn(year, earliest, latest));
            due("at most in " + year + ", " + book, x.stands(0, year, 1),
                    none ? NONE : mostIn(year, earliest, latest));
        }
    }

    private static boolean isInTurn(PostHouses x, int[] from, int[] row) {
        for (int g = 0; g < row.length; g++) {
            for (int h = 0; h < row.length; h++) {
                boolean related = meet[g][h] || later[g][h] || later[h][g];
                boolean higher = x.phase(0, houses[g]) > x.phase(0, houses[h]);
                if (related && higher && from[g] + row[g] < from[h] + row[h] + lives[h]) {
                    return false;
                }
            }
        }
        return true;
    }

    private static int sureIn(int year, int[] earliest, int[] latest) {
        int sure = 0;
        for (int i = 0; i < houses.length; i++) {
            boolean always = true;
            for (int start = earliest[i]; start <= latest[i]; start++) {
                always &= start <= year && year < start + lives[i];
            }
            sure += always ? 1 : 0;
        }
        return sure;
    }

    private static int mostIn(int year, int[] earliest, int[] latest) {
        int most = 0;
        for (int set = 0; set < 1 << houses.length; set++) {
            boolean can = true;
            for (int g = 0; g < houses.length; g++) {
                boolean isIn = (set >> g & 1) == 1;
                can &= !isIn || earliest[g] <= year && year < latest[g] + lives[g];
                for (int h = 0; h < houses.length; h++) {
                    can &= !isIn || (set >> h & 1) == 0 || !meet[g][h] && !later[g][h];
                }
            }
            most = can ? Math.max(most, Integer.bitCount(set)) : most;
        }
        return most;
    }

    // FRAMEWORKS

    private static void frameworks() {
        Edges.says("A FRAMEWORK of a KIND is made by three unlike SPOTS p, q, r: v from p to q, w "
                + "from p to r, if the square of v's length is in \"step\" (from N N to M M), that "
                + "of w's in \"apart\", and v and w stand upright on one another:");
        Edges.says("It is a HOUSE with n posts (n in \"posts\")");
        Edges.says("HOUSES as known: of all FRAMEWORKS");
        int[][] turns = {{1, 0, 0, 1}, {0, 1, -1, 0}, {-1, 0, 0, -1}, {0, -1, 1, 0},
            {-1, 0, 0, 1}, {0, 1, 1, 0}};
        for (int[] t : turns) {
            for (int n = 2; n <= 8; n++) {
                // Three in a step of 10 to 30, one of them apart by 12 to 35: q and r can't change.
                PostHouses x = new PostHouses();
                x.hole(0, 250 + 35 * t[2], 250 + 35 * t[3], 30, 0);
                x.hole(0, 250 + 12 * t[0], 250 + 12 * t[1], 30, 0);
                x.hole(0, 250, 250, 30, 0);
                Edges.kinds(x, "kind{posts " + n + " to 8,step 10 to 30,apart 31 to 40,slack 0}");
                due("half of the places are three", x.houses(0), n <= 3 ? 1 : 0);
                int[] want = {0, 2, 1, 0, 3};
                for (int what = 0; what < want.length && n <= 3; what++) {
                    due("what " + what, x.house(0, 0, what), want[what]);
                }
                due("p", x.place(0, 0, 0, 0), n <= 3 ? 2 : Edges.NOTHING);
                due("q", x.place(0, 0, 1, 0), n <= 3 ? 1 : Edges.NOTHING);
                due("r", x.place(0, 0, 0, 1), n <= 3 ? 0 : Edges.NOTHING);
            }
        }
    }

    /** CUTS and DATES of HOUSES that are not EXPLAINED say nothing. */
    private static void explainedAlone() {
        Edges.says("Of EXPLAINED HOUSES g is LATER than h, if a SPOT of g (or a HOLE JOINED to it) "
                + "cuts one of h, as known.");
        PostHouses x = Edges.kinds(Edges.book(100, 100, 120, 100, 100, 140, 120, 140, 140, 100,
                300, 300, 320, 300, 300, 340), "kind{step 20 to 20,apart 40 to 40,slack 0,"
                + "posts 2 to 2}");
        due("three houses", x.houses(0), 3);
        due("two explained", x.explained(0, 0), 2);
        int other = 0;
        while (x.house(0, other, 10) == 1) {
            other++;
        }
        x.cut(4, 5, 0);
        x.cut(5, 4, 0);
        x.date(4, 5, 5, 0);
        x.date(4, 6, 6, 0);
        due("the one that is not explained", x.pair(0, other, 0, 1), NONE);
        due("one phase", x.phases(0, 0), 1);
        due("one way", x.phases(0, 1), 1);
        int last = other == 2 ? 1 : 2;
        due("the others", x.pair(0, 0, last, 1), 0);
        due("the others", x.start(0, 0, 1), 2000);
        due("the others", x.start(0, last, 0), 0);
    }
}
