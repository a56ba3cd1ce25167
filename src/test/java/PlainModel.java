import java.util.ArrayList;
import java.util.Comparator;
import java.util.HashMap;
import java.util.List;
import java.util.Map;
import java.util.TreeSet;

/**
 * The document once more, told in the plainest way: everything is tried, and what was found is kept
 * only until the next call that tells something. The class is compared with it on runs of calls.
 */
final class PlainModel {
    static final int NONE = -1;
    static final int NOTHING = -1000;

    record Hole(int digger, int x, int y, int depth, int known) { }

    record Retold(int hole, int depth, int known) { }

    record Plot(int x, int y, int u, int v, int last) {
        boolean has(int px, int py) {
            return px >= x && px <= u && py >= y && py <= v;
        }
    }

    record Cut(int later, int earlier, int known) { }

    record Dated(int hole, int from, int to, int known) { }

    record Frame(int turn, int dx, int dy, int hits) { }

    record Spot(int number, int x, int y, int full) { }

    record Range(int from, int to) {
        boolean has(long n) {
            return n >= from && n <= to;
        }

        boolean hasRootOf(long n) {
            return n >= (long) from * from && n <= (long) to * to;
        }
    }

    static final class Kind {
        int rows = 2;
        Range posts = new Range(2, 8);
        Range step = new Range(10, 40);
        Range apart = new Range(20, 80);
        int slack = 3;
        Range deep = new Range(0, 300);
        int pairs = 300;
        int miss = 0;
        int life = 30;
        int worth = 10;
    }

    static final class House {
        int kind;
        Spot p;
        Spot q;
        Spot r;
        int posts;
        int rows;
        int life;
        int filled;
        int missed;
        int lost;
        int unseen;
        int value;
        int[][] places;
        TreeSet<Integer> spots = new TreeSet<>();

        long[][] outline() {
            long vx = q.x - p.x;
            long vy = q.y - p.y;
            long wx = r.x - p.x;
            long wy = r.y - p.y;
            long n = posts - 1;
            long m = rows - 1;
            return new long[][] {{p.x, p.y}, {p.x + n * vx, p.y + n * vy},
                {p.x + n * vx + m * wx, p.y + n * vy + m * wy}, {p.x + m * wx, p.y + m * wy}};
        }
    }

    static final class Fault extends Exception {
        private static final long serialVersionUID = 1L;
        final int place;

        Fault(int place) {
            this.place = place;
        }
    }

    final List<Hole> holes = new ArrayList<>();
    final List<Retold> retold = new ArrayList<>();
    final Map<Integer, Integer> struck = new HashMap<>();
    final List<Plot> trenches = new ArrayList<>();
    final List<Plot> ploughed = new ArrayList<>();
    final List<Cut> cuts = new ArrayList<>();
    final List<Dated> dates = new ArrayList<>();
    List<Kind> kindList = new ArrayList<>();
    final List<Integer> tape = new ArrayList<>();
    int errorNow = 2;
    int lastStatus = 0;
    int lastFault = NONE;
    private final Map<Integer, Frame> framesFound = new HashMap<>();
    private final Map<Integer, List<House>> listsFound = new HashMap<>();
    private final Map<Integer, Among> amongFound = new HashMap<>();
    private final Map<Integer, List<List<Integer>>> fencesFound = new HashMap<>();

    // What is told.

    private int answer(int n) {
        framesFound.clear();
        listsFound.clear();
        amongFound.clear();
        fencesFound.clear();
        chosenFound.clear();
        lastStatus = 0;
        return n;
    }

    private int refused(int why) {
        lastStatus = why;
        return why;
    }

    private static boolean in(int n, int from, int to) {
        return from <= n && n <= to;
    }

    private static boolean week(int n) {
        return in(n, 0, 400);
    }

    private static boolean field(int x, int y) {
        return in(x, 0, 499) && in(y, 0, 499);
    }

    private boolean there(int hole) {
        return hole >= 0 && hole < holes.size();
    }

    int hole(int digger, int x, int y, int depth, int known) {
        if (!(digger == 0 || digger == 1) || !in(x, -600, 1099) || !in(y, -600, 1099)
                || !in(depth, 0, 200) || !week(known)) {
            return refused(-1);
        }
        if (holes.size() >= 40) {
            return refused(-5);
        }
        holes.add(new Hole(digger, x, y, depth, known));
        return answer(holes.size() - 1);
    }

    int retell(int hole, int depth, int known) {
        if (!in(depth, 0, 200) || !week(known)) {
            return refused(-1);
        }
        if (!there(hole)) {
            return refused(-2);
        }
        if (retold.size() >= 60) {
            return refused(-5);
        }
        retold.add(new Retold(hole, depth, known));
        return answer(retold.size());
    }

    int strike(int hole, int known) {
        if (!week(known)) {
            return refused(-1);
        }
        if (!there(hole)) {
            return refused(-2);
        }
        struck.merge(hole, known, Math::min);
        return answer(0);
    }

    int trench(int x, int y, int u, int v, int known) {
        if (!field(x, y) || !field(u, v) || u < x || v < y || !week(known)) {
            return refused(-1);
        }
        if (trenches.size() >= 20) {
            return refused(-5);
        }
        trenches.add(new Plot(x, y, u, v, known));
        return answer(trenches.size());
    }

    int plough(int x, int y, int u, int v, int depth) {
        if (!field(x, y) || !field(u, v) || u < x || v < y || !in(depth, 0, 100)) {
            return refused(-1);
        }
        if (ploughed.size() >= 20) {
            return refused(-5);
        }
        ploughed.add(new Plot(x, y, u, v, depth));
        return answer(ploughed.size());
    }

    int error(int n) {
        if (!in(n, 0, 5)) {
            return refused(-1);
        }
        int was = errorNow;
        errorNow = n;
        return answer(was);
    }

    int cut(int later, int earlier, int known) {
        if (!week(known)) {
            return refused(-1);
        }
        if (!there(later) || !there(earlier)) {
            return refused(-2);
        }
        if (later == earlier) {
            return refused(-4);
        }
        if (cuts.size() >= 60) {
            return refused(-5);
        }
        cuts.add(new Cut(later, earlier, known));
        return answer(cuts.size());
    }

    int date(int hole, int from, int to, int known) {
        if (!in(from, 0, 2000) || !in(to, 0, 2000) || to < from || !week(known)) {
            return refused(-1);
        }
        if (!there(hole)) {
            return refused(-2);
        }
        if (dates.size() >= 60) {
            return refused(-5);
        }
        dates.add(new Dated(hole, from, to, known));
        return answer(dates.size());
    }

    int count(int what) {
        return switch (what) {
            case 0 -> holes.size();
            case 1 -> retold.size();
            case 2 -> trenches.size();
            case 3 -> ploughed.size();
            case 4 -> kindList.size();
            case 5 -> cuts.size();
            case 6 -> dates.size();
            case 7 -> tape.size();
            default -> NONE;
        };
    }

    int status() {
        return lastStatus;
    }

    // The text.

    int feed(int a, int b, int c, int d, int e) {
        if (tape.size() + 20 > 400) {
            return NONE;
        }
        for (int n : new int[] {a, b, c, d, e}) {
            tape.add(n >>> 24);
            tape.add(n >>> 16 & 255);
            tape.add(n >>> 8 & 255);
            tape.add(n & 255);
        }
        return tape.size();
    }

    int end(int n) {
        if (n < 0 || n > tape.size()) {
            return NONE;
        }
        tape.subList(n, tape.size()).clear();
        return n;
    }

    int fault() {
        return lastFault;
    }

    int kinds() {
        StringBuilder text = new StringBuilder();
        for (int b : tape) {
            text.append((char) b);
        }
        tape.clear();
        try {
            kindList = new Grammar(text.toString()).kinds();
            lastFault = NONE;
            return answer(kindList.size());
        } catch (Fault fault) {
            lastFault = fault.place;
            return refused(-6);
        }
    }

    static final class Grammar {
        final List<String> words = new ArrayList<>();
        final List<Integer> places = new ArrayList<>();
        int now = 0;

        Grammar(String text) {
            java.util.regex.Matcher tokens =
                    java.util.regex.Pattern.compile("[a-z]+|[0-9]+|[^ ]", java.util.regex.Pattern.DOTALL)
                            .matcher(text);
            while (tokens.find()) {
                words.add(tokens.group());
                places.add(tokens.start());
            }
            words.add("");
            places.add(text.length());
        }

        List<Kind> kinds() throws Fault {
            List<Kind> all = new ArrayList<>();
            if (words.get(0).isEmpty()) {
                return all;
            }
            while (true) {
                if (all.size() == 5) {
                    throw new Fault(places.get(now));
                }
                all.add(kind());
                if (words.get(now).isEmpty()) {
                    return all;
                }
                must(";");
            }
        }

        void must(String word) throws Fault {
            if (!words.get(now).equals(word)) {
                throw new Fault(places.get(now));
            }
            now++;
        }

        Kind kind() throws Fault {
            Kind kind = new Kind();
            must("kind");
            must("{");
            if (words.get(now).equals("}")) {
                now++;
                return kind;
            }
            clause(kind);
            while (words.get(now).equals(",")) {
                now++;
                clause(kind);
            }
            must("}");
            return kind;
        }

        void clause(Kind kind) throws Fault {
            switch (words.get(now)) {
                case "rows" -> kind.rows = one(2, 4);
                case "posts" -> kind.posts = two(2, 8);
                case "step" -> kind.step = two(5, 100);
                case "apart" -> kind.apart = two(5, 200);
                case "slack" -> kind.slack = one(0, 9);
                case "deep" -> kind.deep = two(0, 300);
                case "pairs" -> kind.pairs = one(0, 300);
                case "miss" -> kind.miss = one(0, 4);
                case "life" -> kind.life = one(1, 500);
                case "worth" -> kind.worth = one(1, 100);
                default -> throw new Fault(places.get(now));
            }
        }

        int one(int from, int to) throws Fault {
            now++;
            return number(from, to);
        }

        Range two(int from, int to) throws Fault {
            int low = one(from, to);
            must("to");
            return new Range(low, number(low, to));
        }

        int number(int from, int to) throws Fault {
            String word = words.get(now);
            if (!word.matches("[0-9]+")) {
                throw new Fault(places.get(now));
            }
            java.math.BigInteger n = new java.math.BigInteger(word);
            if (n.compareTo(java.math.BigInteger.valueOf(from)) < 0
                    || n.compareTo(java.math.BigInteger.valueOf(to)) > 0) {
                throw new Fault(places.get(now));
            }
            now++;
            return n.intValue();
        }
    }

    // What is known.

    boolean seen(int hole, int known) {
        return holes.get(hole).known <= known && !(struck.getOrDefault(hole, 9999) <= known);
    }

    int depth(int hole, int known) {
        int depth = holes.get(hole).depth;
        for (Retold r : retold) {
            if (r.hole == hole && r.known <= known) {
                depth = r.depth;
            }
        }
        return depth;
    }

    boolean dug(int x, int y, int known) {
        return trenches.stream().anyMatch(t -> t.has(x, y) && t.last <= known);
    }

    int taken(int x, int y) {
        return ploughed.stream().filter(t -> t.has(x, y)).mapToInt(Plot::last).max().orElse(0);
    }

    int[] inField(int hole, Frame f) {
        Hole h = holes.get(hole);
        if (h.digger == 0) {
            return new int[] {h.x, h.y};
        }
        int x = h.x;
        int y = h.y;
        for (int i = 0; i < f.turn; i++) {
            int nx = 499 - y;
            int ny = x;
            x = nx;
            y = ny;
        }
        return new int[] {x + f.dx, y + f.dy};
    }

    List<Integer> hitBy(int hole, Frame f, int known) {
        List<Integer> hit = new ArrayList<>();
        int[] at = inField(hole, f);
        for (int o = 0; o < holes.size(); o++) {
            Hole h = holes.get(o);
            if (h.digger == 0 && seen(o, known) && Math.abs(h.x - at[0]) <= errorNow
                    && Math.abs(h.y - at[1]) <= errorNow) {
                hit.add(o);
            }
        }
        return hit;
    }

    Frame frame(int known) {
        return framesFound.computeIfAbsent(known, this::findFrame);
    }

    private Frame findFrame(int known) {
        List<Integer> mine = new ArrayList<>();
        for (int h = 0; h < holes.size(); h++) {
            if (holes.get(h).digger == 1 && seen(h, known)) {
                mine.add(h);
            }
        }
        Comparator<Frame> order = Comparator.<Frame>comparingInt(f -> -f.hits)
                .thenComparingInt(f -> Math.abs(f.dx) + Math.abs(f.dy))
                .thenComparingInt(f -> f.turn).thenComparingInt(f -> f.dx)
                .thenComparingInt(f -> f.dy);
        Frame best = null;
        for (int dy = 20; dy >= -20; dy--) {
            for (int dx = 20; dx >= -20; dx--) {
                for (int t = 3; t >= 0; t--) {
                    Frame f = new Frame(t, dx, dy, 0);
                    int hits = 0;
                    for (int h : mine) {
                        if (!hitBy(h, f, known).isEmpty()) {
                            hits++;
                        }
                    }
                    f = new Frame(t, dx, dy, hits);
                    if (best == null || order.compare(f, best) < 0) {
                        best = f;
                    }
                }
            }
        }
        return best;
    }

    int frame(int known, int what) {
        if (!week(known)) {
            return NOTHING;
        }
        Frame f = frame(known);
        return switch (what) {
            case 0 -> f.turn;
            case 1 -> f.dx;
            case 2 -> f.dy;
            case 3 -> f.hits;
            default -> NOTHING;
        };
    }

    int spotOf(int hole, Frame f, int known) {
        if (!seen(hole, known)) {
            return NONE;
        }
        int[] at = inField(hole, f);
        if (holes.get(hole).digger == 0) {
            return field(at[0], at[1]) ? hole : NONE;
        }
        List<Integer> hit = hitBy(hole, f, known);
        if (hit.isEmpty()) {
            return field(at[0], at[1]) ? hole : NONE;
        }
        return hit.stream().filter(o -> field(holes.get(o).x, holes.get(o).y)).findFirst()
                .orElse(NONE);
    }

    int full(int spot, Frame f, int known) {
        int deepest = 0;
        for (int h = 0; h < holes.size(); h++) {
            if (spotOf(h, f, known) == spot) {
                deepest = Math.max(deepest, depth(h, known));
            }
        }
        int[] at = inField(spot, f);
        return deepest + taken(at[0], at[1]);
    }

    int spot(int hole, int known, int what) {
        if (!there(hole) || !week(known) || !in(what, 0, 4)) {
            return NOTHING;
        }
        Frame f = frame(known);
        if (what < 2) {
            return seen(hole, known) ? inField(hole, f)[what] : NOTHING;
        }
        int spot = spotOf(hole, f, known);
        if (what == 2) {
            return spot;
        }
        if (what == 3) {
            return spot == NONE ? NONE : full(spot, f, known);
        }
        return spot == hole ? 1 : 0;
    }

    List<Spot> spots(int known) {
        Frame f = frame(known);
        List<Spot> spots = new ArrayList<>();
        for (int h = 0; h < holes.size(); h++) {
            if (spotOf(h, f, known) == h) {
                int[] at = inField(h, f);
                spots.add(new Spot(h, at[0], at[1], full(h, f, known)));
            }
        }
        return spots;
    }

    // Houses.

    int state(List<Spot> spots, Kind k, int x, int y, int known) {
        Spot nearest = null;
        long least = Long.MAX_VALUE;
        for (Spot s : spots) {
            long d = (long) (s.x - x) * (s.x - x) + (long) (s.y - y) * (s.y - y);
            if (d < least) {
                least = d;
                nearest = s;
            }
        }
        if (nearest != null && least <= (long) k.slack * k.slack && k.deep.has(nearest.full)) {
            return nearest.number;
        }
        if (!dug(x, y, known)) {
            return -2;
        }
        int t = taken(x, y);
        return t > 0 && t >= k.deep.from ? -3 : -4;
    }

    House tryPosts(List<Spot> spots, Kind k, Spot p, Spot q, Spot r, int n, int known) {
        House h = new House();
        h.p = p;
        h.q = q;
        h.r = r;
        h.posts = n;
        h.rows = k.rows;
        h.life = k.life;
        h.places = new int[n][k.rows];
        boolean twice = false;
        for (int i = 0; i < n; i++) {
            for (int j = 0; j < k.rows; j++) {
                int x = p.x + i * (q.x - p.x) + j * (r.x - p.x);
                int y = p.y + i * (q.y - p.y) + j * (r.y - p.y);
                int s = state(spots, k, x, y, known);
                h.places[i][j] = s;
                if (s >= 0) {
                    h.filled++;
                    twice |= !h.spots.add(s);
                } else if (s == -2) {
                    h.unseen++;
                } else if (s == -3) {
                    h.lost++;
                } else {
                    h.missed++;
                }
            }
        }
        if (twice || 2 * h.filled < n * k.rows || h.missed > k.miss) {
            return null;
        }
        if (h.places[0][0] < 0 || h.places[1][0] < 0 || h.places[0][1] < 0) {
            return null;
        }
        Map<Integer, Integer> fulls = new HashMap<>();
        spots.forEach(s -> fulls.put(s.number, s.full));
        for (int[] row : h.places) {
            for (int j = 0; j + 1 < k.rows; j++) {
                if (row[j] >= 0 && row[j + 1] >= 0
                        && Math.abs(fulls.get(row[j]) - fulls.get(row[j + 1])) > k.pairs) {
                    return null;
                }
            }
        }
        h.value = k.worth * h.filled - 5 * h.missed - 2 * h.lost;
        return h;
    }

    List<House> allOf(List<Spot> spots, int number, int known) {
        Kind k = kindList.get(number);
        List<House> all = new ArrayList<>();
        for (Spot p : spots) {
            for (Spot q : spots) {
                long vx = q.x - p.x;
                long vy = q.y - p.y;
                long vv = vx * vx + vy * vy;
                if (q == p || !k.step.hasRootOf(vv)) {
                    continue;
                }
                for (Spot r : spots) {
                    long wx = r.x - p.x;
                    long wy = r.y - p.y;
                    long vw = vx * wx + vy * wy;
                    if (r == p || r == q || !k.apart.hasRootOf(wx * wx + wy * wy)
                            || vw * vw > (long) k.slack * k.slack * vv) {
                        continue;
                    }
                    for (int n = k.posts.to; n >= k.posts.from; n--) {
                        House h = tryPosts(spots, k, p, q, r, n, known);
                        if (h != null) {
                            h.kind = number;
                            all.add(h);
                            break;
                        }
                    }
                }
            }
        }
        return all;
    }

    List<House> list(int known) {
        return listsFound.computeIfAbsent(known, this::findList);
    }

    private List<House> findList(int known) {
        List<Spot> spots = spots(known);
        List<House> kept = new ArrayList<>();
        for (int k = 0; k < kindList.size(); k++) {
            List<House> of = allOf(spots, k, known);
            Map<TreeSet<Integer>, House> best = new HashMap<>();
            for (House h : of) {
                House b = best.get(h.spots);
                if (b == null || h.value > b.value) {
                    best.put(h.spots, h);
                }
            }
            for (House h : of) {
                if (best.get(h.spots) == h) {
                    kept.add(h);
                }
            }
        }
        kept.sort((a, b) -> b.value - a.value);
        return kept.size() > 24 ? new ArrayList<>(kept.subList(0, 24)) : kept;
    }

    private final Map<Integer, List<Integer>> chosenFound = new HashMap<>();

    List<Integer> chosen(int known) {
        return chosenFound.computeIfAbsent(known, w -> chosen(list(w)));
    }

    private List<Integer> chosen(List<House> list) {
        List<List<Integer>> best = new ArrayList<>();
        best.add(new ArrayList<>());
        choose(list, 0, new ArrayList<>(), best);
        return best.get(0);
    }

    private static int worth(List<House> list, List<Integer> set) {
        return set.stream().mapToInt(i -> list.get(i).value).sum();
    }

    private void choose(List<House> list, int at, List<Integer> set, List<List<Integer>> best) {
        if (at == list.size()) {
            List<Integer> b = best.get(0);
            int c = Integer.compare(worth(list, set), worth(list, b));
            if (c == 0) {
                c = Integer.compare(b.size(), set.size());
            }
            for (int i = 0; c == 0 && i < set.size(); i++) {
                c = Integer.compare(b.get(i), set.get(i));
            }
            if (c > 0) {
                best.set(0, new ArrayList<>(set));
            }
            return;
        }
        choose(list, at + 1, set, best);
        House h = list.get(at);
        if (h.value > 0 && set.stream().noneMatch(
                o -> list.get(o).spots.stream().anyMatch(h.spots::contains))) {
            set.add(at);
            choose(list, at + 1, set, best);
            set.remove(set.size() - 1);
        }
    }

    int houses(int known) {
        return week(known) ? list(known).size() : NONE;
    }

    int house(int known, int house, int what) {
        if (!week(known)) {
            return NOTHING;
        }
        List<House> list = list(known);
        if (!in(house, 0, list.size() - 1)) {
            return NOTHING;
        }
        House h = list.get(house);
        return switch (what) {
            case 0 -> h.kind;
            case 1 -> h.p.number;
            case 2 -> h.q.number;
            case 3 -> h.r.number;
            case 4 -> h.posts;
            case 5 -> h.filled;
            case 6 -> h.missed;
            case 7 -> h.lost;
            case 8 -> h.unseen;
            case 9 -> h.value;
            case 10 -> chosen(known).contains(house) ? 1 : 0;
            default -> NOTHING;
        };
    }

    int place(int known, int house, int i, int j) {
        if (!week(known)) {
            return NOTHING;
        }
        List<House> list = list(known);
        if (!in(house, 0, list.size() - 1)) {
            return NOTHING;
        }
        House h = list.get(house);
        return in(i, 0, h.posts - 1) && in(j, 0, h.rows - 1) ? h.places[i][j] : NOTHING;
    }

    int explained(int known, int what) {
        if (!week(known) || !in(what, 0, 1)) {
            return NONE;
        }
        List<House> list = list(known);
        List<Integer> set = chosen(known);
        return what == 0 ? set.size() : worth(list, set);
    }

    int strength(int kind, int known) {
        if (!in(kind, 0, kindList.size() - 1) || !week(known)) {
            return NONE;
        }
        List<Spot> spots = spots(known);
        int m = spots.size();
        int own = allOf(spots, kind, known).stream().mapToInt(h -> h.value).max().orElse(0);
        int below = 0;
        for (int t = 1; t <= 7; t++) {
            List<Spot> trial = new ArrayList<>();
            for (int i = 0; i < m; i++) {
                Spot s = spots.get(i);
                trial.add(new Spot(s.number, s.x, spots.get((i + t) % m).y, s.full));
            }
            int best = allOf(trial, kind, known).stream().mapToInt(h -> h.value).max().orElse(0);
            if (best < own) {
                below++;
            }
        }
        return below;
    }

    // Phases.

    private static long cross(long[] a, long[] b, long[] c) {
        return (b[0] - a[0]) * (c[1] - a[1]) - (b[1] - a[1]) * (c[0] - a[0]);
    }

    private static boolean on(long[] a, long[] b, long[] c) {
        return cross(a, b, c) == 0 && c[0] >= Math.min(a[0], b[0]) && c[0] <= Math.max(a[0], b[0])
                && c[1] >= Math.min(a[1], b[1]) && c[1] <= Math.max(a[1], b[1]);
    }

    private static boolean cross(long[] a, long[] b, long[] c, long[] d) {
        if (on(a, b, c) || on(a, b, d) || on(c, d, a) || on(c, d, b)) {
            return true;
        }
        return Long.signum(cross(a, b, c)) * Long.signum(cross(a, b, d)) < 0
                && Long.signum(cross(c, d, a)) * Long.signum(cross(c, d, b)) < 0;
    }

    private static boolean within(long[][] o, long[] point) {
        boolean left = false;
        boolean right = false;
        boolean flat = true;
        for (int i = 0; i < 4; i++) {
            long c = cross(o[i], o[(i + 1) % 4], point);
            left |= c > 0;
            right |= c < 0;
            flat &= cross(o[0], o[1], o[2]) == 0;
        }
        return !flat && !(left && right);
    }

    static boolean meet(House a, House b) {
        long[][] one = a.outline();
        long[][] two = b.outline();
        for (int i = 0; i < 4; i++) {
            if (within(one, two[i]) || within(two, one[i])) {
                return true;
            }
            for (int j = 0; j < 4; j++) {
                if (cross(one[i], one[(i + 1) % 4], two[j], two[(j + 1) % 4])) {
                    return true;
                }
            }
        }
        return false;
    }

    /** The EXPLAINED HOUSES as known in a week with all that is among them. */
    final class Among {
        final List<House> list;
        final List<Integer> set;
        final int n;
        final boolean[][] meets;
        final boolean[][] later;
        final Map<Integer, Integer> memberOf = new HashMap<>();
        int phases = NONE;
        int rivals = 0;
        int[] phase = null;
        int[] earliest = null;
        int[] latest = null;

        Among(int known) {
            list = list(known);
            set = chosen(known);
            n = set.size();
            meets = new boolean[n][n];
            later = new boolean[n][n];
            Frame f = frame(known);
            for (int h = 0; h < holes.size(); h++) {
                int spot = spotOf(h, f, known);
                for (int i = 0; i < n; i++) {
                    if (list.get(set.get(i)).spots.contains(spot)) {
                        memberOf.put(h, i);
                    }
                }
            }
            for (int i = 0; i < n; i++) {
                for (int j = 0; j < n; j++) {
                    meets[i][j] = i != j && meet(list.get(set.get(i)), list.get(set.get(j)));
                }
            }
            for (Cut c : cuts) {
                Integer g = memberOf.get(c.later);
                Integer h = memberOf.get(c.earlier);
                if (c.known <= known && g != null && h != null && !g.equals(h)) {
                    later[g][h] = true;
                }
            }
            for (int k = n == 0 ? 0 : 1; k <= n && phase == null; k++) {
                phases = k;
                number(new int[n], 0, k);
            }
            if (phase == null) {
                phases = NONE;
            } else {
                spread(known);
            }
        }

        boolean related(int i, int j) {
            return meets[i][j] || later[i][j] || later[j][i];
        }

        void number(int[] row, int at, int k) {
            if (rivals >= 1000) {
                return;
            }
            if (at == n) {
                rivals++;
                if (phase == null) {
                    phase = row.clone();
                }
                return;
            }
            for (int c = 0; c < k; c++) {
                boolean good = true;
                for (int o = 0; o < at && good; o++) {
                    good = !(meets[at][o] && row[o] == c) && !(later[at][o] && c <= row[o])
                            && !(later[o][at] && row[o] <= c);
                }
                if (good) {
                    row[at] = c;
                    number(row, at + 1, k);
                }
            }
        }

        /** Narrows the years until nothing moves any more. */
        void spread(int known) {
            int[] low = new int[n];
            int[] high = new int[n];
            java.util.Arrays.fill(high, 2000);
            for (Dated d : dates) {
                Integer m = memberOf.get(d.hole);
                if (d.known <= known && m != null) {
                    low[m] = Math.max(low[m], d.from);
                    high[m] = Math.min(high[m], d.to);
                }
            }
            boolean moved = true;
            while (moved) {
                moved = false;
                for (int i = 0; i < n; i++) {
                    for (int j = 0; j < n; j++) {
                        if (i == j || !related(i, j) || phase[i] <= phase[j]) {
                            continue;
                        }
                        int life = list.get(set.get(j)).life;
                        if (low[i] < low[j] + life) {
                            low[i] = low[j] + life;
                            moved = true;
                        }
                        if (high[j] > high[i] - life) {
                            high[j] = high[i] - life;
                            moved = true;
                        }
                    }
                }
            }
            for (int i = 0; i < n; i++) {
                if (low[i] > high[i]) {
                    return;
                }
            }
            earliest = low;
            latest = high;
        }
    }

    Among among(int known) {
        if (!amongFound.containsKey(known)) {
            amongFound.put(known, new Among(known));
        }
        return amongFound.get(known);
    }

    int pair(int known, int one, int other, int what) {
        if (!week(known) || !in(what, 0, 1)) {
            return NONE;
        }
        Among a = among(known);
        int g = a.set.indexOf(one);
        int h = a.set.indexOf(other);
        if (g < 0 || h < 0 || g == h) {
            return NONE;
        }
        return (what == 0 ? a.meets : a.later)[g][h] ? 1 : 0;
    }

    int phases(int known, int what) {
        if (!week(known) || !in(what, 0, 1)) {
            return NONE;
        }
        Among a = among(known);
        if (a.phase == null) {
            return NONE;
        }
        return what == 0 ? a.phases : a.rivals;
    }

    int phase(int known, int house) {
        if (!week(known)) {
            return NONE;
        }
        Among a = among(known);
        int i = a.set.indexOf(house);
        return i < 0 || a.phase == null ? NONE : a.phase[i];
    }

    int start(int known, int house, int what) {
        if (!week(known) || !in(what, 0, 1)) {
            return NONE;
        }
        Among a = among(known);
        int i = a.set.indexOf(house);
        if (i < 0 || a.earliest == null) {
            return NONE;
        }
        return what == 0 ? a.earliest[i] : a.latest[i];
    }

    int stands(int known, int year, int what) {
        if (!week(known) || !in(year, 0, 2500) || !in(what, 0, 1)) {
            return NONE;
        }
        Among a = among(known);
        if (a.earliest == null) {
            return NONE;
        }
        int sure = 0;
        List<Integer> able = new ArrayList<>();
        for (int i = 0; i < a.n; i++) {
            int life = a.list.get(a.set.get(i)).life;
            if (a.latest[i] <= year && a.earliest[i] + life > year) {
                sure++;
            }
            if (a.earliest[i] <= year && a.latest[i] + life > year) {
                able.add(i);
            }
        }
        return what == 0 ? sure : most(a, able, 0, new ArrayList<>());
    }

    private int most(Among a, List<Integer> able, int at, List<Integer> taken) {
        if (at == able.size()) {
            return taken.size();
        }
        int best = most(a, able, at + 1, taken);
        int i = able.get(at);
        if (taken.stream().noneMatch(o -> a.related(i, o))) {
            taken.add(i);
            best = Math.max(best, most(a, able, at + 1, taken));
            taken.remove(taken.size() - 1);
        }
        return best;
    }

    // Fences.

    List<List<Integer>> fenceList(int known) {
        return fencesFound.computeIfAbsent(known, this::findFences);
    }

    private List<List<Integer>> findFences(int known) {
        List<House> list = list(known);
        List<Spot> loose = new ArrayList<>(spots(known));
        for (int i : chosen(known)) {
            loose.removeIf(s -> list.get(i).spots.contains(s.number));
        }
        List<List<Integer>> fences = new ArrayList<>();
        while (true) {
            List<Spot> best = new ArrayList<>();
            for (Spot a : loose) {
                for (Spot b : loose) {
                    if (b.number <= a.number || a.x == b.x && a.y == b.y) {
                        continue;
                    }
                    List<Spot> near = new ArrayList<>();
                    long dx = b.x - a.x;
                    long dy = b.y - a.y;
                    for (Spot s : loose) {
                        long c = dx * (s.y - a.y) - dy * (s.x - a.x);
                        if (c * c <= 4 * (dx * dx + dy * dy)) {
                            near.add(s);
                        }
                    }
                    if (near.size() > best.size()) {
                        best = near;
                    }
                }
            }
            if (best.size() < 4) {
                return fences;
            }
            fences.add(best.stream().map(Spot::number).toList());
            loose.removeAll(best);
        }
    }

    int fences(int known) {
        return week(known) ? fenceList(known).size() : NONE;
    }

    int led(int hole, int known, int what) {
        if (!there(hole) || !week(known) || !in(what, 0, 1)) {
            return NONE;
        }
        if (!seen(hole, known)) {
            return what == 0 ? 0 : NONE;
        }
        int spot = spotOf(hole, frame(known), known);
        if (spot == NONE) {
            return what == 0 ? 1 : NONE;
        }
        List<House> list = list(known);
        for (int i : chosen(known)) {
            if (list.get(i).spots.contains(spot)) {
                return what == 0 ? 2 : i;
            }
        }
        List<List<Integer>> fences = fenceList(known);
        for (int i = 0; i < fences.size(); i++) {
            if (fences.get(i).contains(spot)) {
                return what == 0 ? 3 : i;
            }
        }
        return what == 0 ? 4 : NONE;
    }
}
