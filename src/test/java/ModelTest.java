import java.util.ArrayList;
import java.util.List;
import java.util.Random;
import java.util.stream.LongStream;

/** Runs of calls, made up by fixed seeds, on the class and on the plain model: all answers alike. */
public final class ModelTest {
    private static final int CALLS = 500;
    private static final String[] SINGLE = {"rows", "slack", "pairs", "miss", "life", "worth"};
    private static final int[][] WAYS = {{20, 0}, {0, 20}, {12, 16}, {16, -12}, {24, 7}, {30, 0},
        {15, 20}, {10, 0}, {0, 35}, {40, 0}, {7, 24}, {-20, 1}};

    private final long seed;
    private final Random random;
    private final PostHouses real = new PostHouses();
    private final PlainModel model = new PlainModel();
    private final List<String> calls = new ArrayList<>();
    private final int turn;
    private final int shiftX;
    private final int shiftY;
    private final int weeks;
    private boolean same = true;

    private ModelTest(long seed) {
        this.seed = seed;
        random = new Random(seed);
        turn = random.nextInt(4);
        shiftX = random.nextInt(41) - 20;
        shiftY = random.nextInt(41) - 20;
        weeks = random.nextInt(4) == 0 ? 401 : 1 + random.nextInt(6);
    }

    public static void main(String[] args) {
        long from = args.length > 0 ? Long.parseLong(args[0]) : 1;
        long to = args.length > 1 ? Long.parseLong(args[1]) : 80;
        List<ModelTest> differing = LongStream.rangeClosed(from, to).parallel()
                .mapToObj(ModelTest::new).peek(ModelTest::play).filter(run -> !run.same).toList();
        int wrong = differing.size();
        for (ModelTest run : differing.subList(0, Math.min(5, wrong))) {
            System.out.println("seed " + run.seed + ":");
            run.calls.forEach(c -> System.out.println("  " + c));
        }
        System.out.println(wrong == 0 ? "the class and the model agree" : wrong + " runs differ");
        if (wrong != 0) {
            System.exit(1);
        }
    }

    private void due(String call, int got, int want) {
        calls.add(call + " = " + got + (got == want ? "" : ", the model says " + want));
        same &= got == want;
    }

    private int below(int n) {
        return random.nextInt(n);
    }

    private boolean chance(int of) {
        return random.nextInt(of) == 0;
    }

    private int week() {
        return chance(40) ? below(500) - 50 : below(weeks);
    }

    private int holeNumber() {
        int n = model.holes.size();
        return n == 0 || chance(25) ? below(44) - 2 : below(n);
    }

    private void play() {
        build();
        while (same && calls.size() < CALLS) {
            int before = calls.size();
            if (chance(12)) {
                tell();
            } else {
                ask();
            }
            if (calls.size() == before) {
                break;
            }
        }
    }

    private void build() {
        if (chance(6)) {
            buildHeap();
            return;
        }
        int ways = 1 + below(4);
        int size = 8 + below(33);
        while (same && model.holes.size() < size && calls.size() < 200) {
            switch (below(8)) {
                case 0 -> tellHole(below(500), below(500));
                case 1 -> buildFence();
                default -> buildHouse(WAYS[below(ways * 3)]);
            }
        }
        if (chance(2)) {
            due("trench(0, 0, 499, 499, 0)", real.trench(0, 0, 499, 499, 0),
                    model.trench(0, 0, 499, 499, 0));
        }
        for (int i = below(4); i > 0; i--) {
            tellTrench();
        }
        for (int i = below(4); i > 0; i--) {
            tellPlough();
        }
        tellKinds();
    }

    /** Posts so near to one another that outlines may be flat and SPOTS lie at one place. */
    private void buildHeap() {
        int side = 8 + below(30);
        int edge = chance(3) ? 0 : 200;
        for (int i = 10 + below(15); i > 0; i--) {
            addHole(chance(6) ? 1 : 0, edge + below(side), edge + below(chance(3) ? 1 : side),
                    below(40));
        }
        tellKinds("kind{step 5 to " + (7 + below(20)) + ", apart 5 to " + (7 + below(20))
                + ", slack " + below(10) + ", miss " + below(5) + "}; kind{step 5 to 9, apart 5 to "
                + "9, slack 9, rows " + (2 + below(3)) + ", posts 2 to " + (2 + below(3)) + "}");
    }

    private int jitter() {
        return chance(2) ? 0 : below(5) - 2;
    }

    private void buildHouse(int[] v) {
        int posts = 2 + below(4);
        int rows = chance(4) ? 3 : 2;
        int times = 1 + below(2);
        int x = 100 + below(chance(2) ? 60 : 300);
        int y = 100 + below(chance(2) ? 60 : 300);
        for (int i = 0; i < posts; i++) {
            for (int j = 0; j < rows; j++) {
                if (!chance(9)) {
                    tellHole(x + i * v[0] - j * v[1] * times + jitter(),
                            y + i * v[1] + j * v[0] * times + jitter());
                }
            }
        }
    }

    private void buildFence() {
        int x = below(300);
        int y = below(300);
        int dx = below(30);
        int dy = below(30);
        for (int i = 0; i < 3 + below(4); i++) {
            tellHole(x + i * dx + jitter(), y + i * dy + jitter());
        }
    }

    /** The second digger tells the same places in a frame of his own, some of them once more. */
    private void tellHole(int x, int y) {
        if (chance(15)) {
            x = below(1800) - 650;
        }
        int depth = chance(3) ? below(210) : 20 + below(20);
        if (!chance(4)) {
            addHole(0, x, y, depth);
            if (!chance(5)) {
                return;
            }
        }
        int px = x - shiftX + jitter();
        int py = y - shiftY + jitter();
        for (int t = 0; t < turn; t++) {
            int old = px;
            px = py;
            py = 499 - old;
        }
        addHole(chance(40) ? 2 : 1, px, py, depth + jitter());
    }

    private void addHole(int digger, int x, int y, int depth) {
        int w = chance(2) ? 0 : week();
        due("hole(" + digger + ", " + x + ", " + y + ", " + depth + ", " + w + ")",
                real.hole(digger, x, y, depth, w), model.hole(digger, x, y, depth, w));
    }

    private void tellTrench() {
        int x = below(300) - 3;
        int y = below(300) - 3;
        int u = chance(10) ? below(510) : Math.min(499, x + 20 + below(300));
        int v = chance(10) ? below(510) : Math.min(499, y + 20 + below(300));
        int w = week();
        due("trench(" + x + ", " + y + ", " + u + ", " + v + ", " + w + ")",
                real.trench(x, y, u, v, w), model.trench(x, y, u, v, w));
    }

    private void tellPlough() {
        int x = below(300) - 3;
        int y = below(300) - 3;
        int u = chance(10) ? below(510) : Math.min(499, x + 20 + below(200));
        int v = chance(10) ? below(510) : Math.min(499, y + 20 + below(200));
        int d = chance(4) ? below(104) - 1 : below(12);
        due("plough(" + x + ", " + y + ", " + u + ", " + v + ", " + d + ")",
                real.plough(x, y, u, v, d), model.plough(x, y, u, v, d));
    }

    private String blanks() {
        return chance(6) ? " ".repeat(below(3)) : "";
    }

    private String clause() {
        int a = below(6);
        String to = blanks() + " to " + blanks();
        switch (below(12)) {
            case 0, 1:
                return "posts " + (2 + below(2)) + to + (2 + below(7));
            case 2, 3:
                return "step " + (5 + below(15)) + to + (20 + below(50));
            case 4, 5:
                return "apart " + (5 + below(30)) + to + (20 + below(70));
            case 6:
                return "deep " + below(20) + to + (20 + below(250));
            case 7:
                return "slack " + (2 + below(7));
            case 8:
                return "miss " + below(5);
            default:
                int[] most = {4, 9, 300, 4, 500, 100};
                return SINGLE[a] + " " + blanks() + Math.max(below(most[a] + 2), a == 0 ? 2 : 0);
        }
    }

    private String text() {
        StringBuilder text = new StringBuilder();
        int kinds = chance(12) ? below(8) : 1 + below(3);
        for (int k = 0; k < kinds; k++) {
            text.append(k == 0 ? "" : ";").append(blanks()).append("kind").append(blanks())
                    .append("{");
            int clauses = below(5);
            for (int c = 0; c < clauses; c++) {
                text.append(c == 0 ? "" : ",").append(blanks()).append(clause()).append(blanks());
            }
            text.append("}").append(blanks());
        }
        if (chance(6) && text.length() > 0) {
            int at = below(text.length());
            switch (below(3)) {
                case 0 -> text.deleteCharAt(at);
                case 1 -> text.setCharAt(at, (char) below(256));
                default -> text.insert(at, chance(2) ? "0" : "kind");
            }
        }
        return text.toString();
    }

    private void tellKinds() {
        tellKinds(text());
    }

    private void tellKinds(String text) {
        int length = Math.min(text.length(), 400);
        for (int at = 0; at < length; at += 20) {
            int[] n = new int[5];
            for (int i = 0; i < 20; i++) {
                int c = at + i < length ? text.charAt(at + i) : 0;
                n[i / 4] = n[i / 4] << 8 | c;
            }
            due("feed(" + n[0] + ", " + n[1] + ", " + n[2] + ", " + n[3] + ", " + n[4] + ")",
                    real.feed(n[0], n[1], n[2], n[3], n[4]),
                    model.feed(n[0], n[1], n[2], n[3], n[4]));
        }
        if (!chance(20)) {
            due("end(" + length + ")", real.end(length), model.end(length));
        }
        due("kinds() of " + text, real.kinds(), model.kinds());
        due("fault()", real.fault(), model.fault());
    }

    /** Most CUTS and DATES are of HOLES in houses, as the others say nothing. */
    private int housedNumber(int w) {
        List<Integer> housed = new ArrayList<>();
        for (int i = 0; w >= 0 && w <= 400 && i < model.holes.size(); i++) {
            if (model.led(i, w, 0) == 2) {
                housed.add(i);
            }
        }
        return housed.isEmpty() || chance(8) ? holeNumber() : housed.get(below(housed.size()));
    }

    private void tell() {
        int w = week();
        int sort = below(16);
        int h = sort < 7 ? holeNumber() : housedNumber(w);
        int o = sort < 7 ? holeNumber() : housedNumber(w);
        switch (sort) {
            case 0 -> addHole(below(2), below(500), below(500), below(60));
            case 1 -> {
                int d = chance(8) ? below(260) - 20 : below(60);
                due("retell(" + h + ", " + d + ", " + w + ")", real.retell(h, d, w),
                        model.retell(h, d, w));
            }
            case 2 -> due("strike(" + h + ", " + w + ")", real.strike(h, w), model.strike(h, w));
            case 3 -> tellTrench();
            case 4 -> tellPlough();
            case 5 -> {
                int n = below(8) - 1;
                due("error(" + n + ")", real.error(n), model.error(n));
            }
            case 6 -> tellKinds();
            case 7, 8, 9, 10 -> due("cut(" + h + ", " + o + ", " + w + ")", real.cut(h, o, w),
                    model.cut(h, o, w));
            default -> {
                int a = chance(10) ? below(2100) - 50 : 500 + below(chance(2) ? 20 : 200);
                int b = a + (chance(10) ? -1 : chance(2) ? below(30) : below(300));
                due("date(" + h + ", " + a + ", " + b + ", " + w + ")", real.date(h, a, b, w),
                        model.date(h, a, b, w));
            }
        }
        due("status()", real.status(), model.status());
    }

    private int houseNumber(int w) {
        int n = w >= 0 && w <= 400 ? model.houses(w) : 0;
        return n == 0 || chance(20) ? below(28) - 2 : below(n);
    }

    private int explainedNumber(int w) {
        List<Integer> set = w >= 0 && w <= 400 ? model.chosen(w) : List.of();
        return set.isEmpty() || chance(8) ? houseNumber(w) : set.get(below(set.size()));
    }

    private void ask() {
        int w = week();
        switch (below(16)) {
            case 0 -> {
                int q = below(6) - 1;
                due("frame(" + w + ", " + q + ")", real.frame(w, q), model.frame(w, q));
            }
            case 1 -> {
                int h = holeNumber();
                int q = below(7) - 1;
                due("spot(" + h + ", " + w + ", " + q + ")", real.spot(h, w, q),
                        model.spot(h, w, q));
            }
            case 2 -> due("houses(" + w + ")", real.houses(w), model.houses(w));
            case 3, 4 -> {
                int h = houseNumber(w);
                for (int q = -1; q < 12; q++) {
                    due("house(" + w + ", " + h + ", " + q + ")", real.house(w, h, q),
                            model.house(w, h, q));
                }
            }
            case 5 -> {
                int h = houseNumber(w);
                int i = below(7) - 1;
                int j = below(5) - 1;
                due("place(" + w + ", " + h + ", " + i + ", " + j + ")", real.place(w, h, i, j),
                        model.place(w, h, i, j));
            }
            case 6 -> {
                int q = below(4) - 1;
                due("explained(" + w + ", " + q + ")", real.explained(w, q),
                        model.explained(w, q));
            }
            case 7 -> {
                int k = below(model.kindList.size() + 2) - 1;
                due("strength(" + k + ", " + w + ")", real.strength(k, w), model.strength(k, w));
            }
            case 8, 9 -> {
                int g = explainedNumber(w);
                int h = explainedNumber(w);
                int q = chance(20) ? below(4) - 1 : below(2);
                due("pair(" + w + ", " + g + ", " + h + ", " + q + ")", real.pair(w, g, h, q),
                        model.pair(w, g, h, q));
            }
            case 10 -> {
                for (int q = -1; q < 3; q++) {
                    due("phases(" + w + ", " + q + ")", real.phases(w, q), model.phases(w, q));
                }
            }
            case 11 -> {
                int h = explainedNumber(w);
                due("phase(" + w + ", " + h + ")", real.phase(w, h), model.phase(w, h));
            }
            case 12 -> {
                int h = explainedNumber(w);
                for (int q = -1; q < 3; q++) {
                    due("start(" + w + ", " + h + ", " + q + ")", real.start(w, h, q),
                            model.start(w, h, q));
                }
            }
            case 13 -> {
                int h = explainedNumber(w);
                int y = chance(3) ? below(3000) - 100
                        : model.start(w, h, below(2)) + below(35) * below(2);
                int q = chance(10) ? below(4) - 1 : below(2);
                due("stands(" + w + ", " + y + ", " + q + ")", real.stands(w, y, q),
                        model.stands(w, y, q));
            }
            case 14 -> {
                due("fences(" + w + ")", real.fences(w), model.fences(w));
                int q = below(10) - 1;
                due("count(" + q + ")", real.count(q), model.count(q));
            }
            default -> {
                int h = holeNumber();
                for (int q = -1; q < 3; q++) {
                    due("led(" + h + ", " + w + ", " + q + ")", real.led(h, w, q),
                            model.led(h, w, q));
                }
            }
        }
    }
}
